/** What the document says, promise by promise, on small worlds whose answers were worked out by hand. */
public final class PromiseRuns extends Runs {
    public static void main(String[] args) {
        newObject();
        person();
        of();
        roll();
        at();
        terms();
        feedAndEnd();
        rowAndGrain();
        lawFaults();
        lawLimits();
        lawRoom();
        orderFaults();
        ordersRun();
        ordersWords();
        ordersStop();
        force();
        asks();
        sumsAndTests();
        talk();
        develop();
        bury();
        pass();
        undo();
        soonest();
        endsAndHouse();
        givings();
        toldAndForget();
        were();
        ask();
        chatter();
        chance();
        years();
        images();
        count();
        status();
        close();
    }

    private static void newObject() {
        promise = "1";
        RollsAgree x = new RollsAgree();
        int[] due = {0, 0, 0, 0, 0, 0, 0, 0, 0, 0, 0, 0, 0, NONE, 0, 2, 0};
        for (int i = 0; i < due.length; i++) {
            due("new: count(" + i + ")", x.count(i), due[i]);
        }
        due("new: status", x.status(), 0);
        due("new: fault", x.fault(), NONE);
        due("new: stopped", x.stopped(), NONE);
        due("new: grain", x.grain(), 0);
        due("new: of", x.of(0, 0), NONE);
        due("new: at", x.at(0, 0), NONE);
        due("new: drawn", x.drawn(0, 0), NONE);
        due("new: forget", x.forget(), 0);
        due("new: back(0)", x.back(0), -2);
        due("NONE", RollsAgree.NONE, -1);
    }

    private static void person() {
        promise = "2";
        RollsAgree x = new RollsAgree();
        due("person(0,0,0)", x.person(0, 0, 0), 0);
        due("person(9,99,255)", x.person(9, 99, 255), 1);
        int[][] bad = {{-1, 0, 0}, {10, 0, 0}, {0, -1, 0}, {0, 100, 0}, {0, 0, -1}, {0, 0, 256},
            {FAR, 0, 0}, {0, FAR_BELOW, 0}, {0, 0, FAR}};
        for (int[] b : bad) {
            due("person(" + b[0] + "," + b[1] + "," + b[2] + ")", x.person(b[0], b[1], b[2]), -1);
        }
        due("people", x.count(0), 2);
        for (int i = 2; i < 6; i++) {
            due("person " + i, x.person(i, i, i), i);
        }
        due("the 7th", x.person(0, 0, 0), -5);
        due("bad ahead of no room", x.person(10, 0, 0), -1);
        due("people", x.count(0), 6);
        due("refused by -1", x.count(8), bad.length + 1);
        due("refused by -5", x.count(11), 1);
    }

    private static void of() {
        promise = "3";
        RollsAgree x = new RollsAgree();
        x.person(7, 61, marks(3, 1, 0, 2));
        int[] due = {7, 61, 1, 3, 1, 0, 2};
        for (int i = 0; i < due.length; i++) {
            due("of(0," + i + ")", x.of(0, i), due[i]);
        }
        due("of(0,7)", x.of(0, 7), NONE);
        due("of(0,-1)", x.of(0, -1), NONE);
        due("of(0,far)", x.of(0, FAR), NONE);
        due("of(0,far below)", x.of(0, FAR_BELOW), NONE);
        due("of(1,0)", x.of(1, 0), NONE);
        due("of(-1,0)", x.of(-1, 0), NONE);
        x.bury(0);
        due("dead", x.of(0, 2), 0);
        due("a dead one's firm", x.of(0, 0), 7);
        due("a dead one's mark", x.of(0, 3), 3);
    }

    private static void roll() {
        promise = "4";
        RollsAgree x = folk(1, 0, 1, 2);
        due("on all", x.roll(0, 7), 0);
        due("on one", x.roll(3, 4), 1);
        due("day -1", x.roll(-1, 1), -1);
        due("day 4", x.roll(4, 1), -1);
        due("on nobody", x.roll(0, 0), -1);
        due("on one there is not", x.roll(0, 8), -1);
        due("on one there is not, too", x.roll(0, 15), -1);
        due("on below 0", x.roll(0, -1), -1);
        due("on far below", x.roll(0, FAR_BELOW), -1);
        x.bury(0);
        due("on a dead one", x.roll(0, 1), 2);
        for (int i = 3; i < 8; i++) {
            due("roll " + i, x.roll(1, 2), i);
        }
        due("the 9th", x.roll(0, 1), -5);
        due("bad ahead of no room", x.roll(0, 0), -1);
        due("rolls", x.count(2), 8);
    }

    private static void at() {
        promise = "5";
        RollsAgree x = folk(1, 2, 2, 3);
        x.roll(0, 3);
        x.roll(0, 6);
        x.roll(3, 4);
        due("day", x.at(2, 0), 3);
        due("who", x.at(1, 1), 6);
        due("not done", x.at(0, 2), 0);
        due("agrees", x.at(0, 3), 1);
        due("does not", x.at(1, 3), 0);
        due("one alone", x.at(2, 3), 1);
        x.bury(2);
        due("the dead don't count", x.at(1, 3), 1);
        due("who stays", x.at(1, 1), 6);
        due("nobody lives", x.at(2, 3), 1);
        x.develop(0);
        due("done", x.at(0, 2), 1);
        due("what 4", x.at(0, 4), NONE);
        due("what -1", x.at(0, -1), NONE);
        due("no such", x.at(3, 0), NONE);
        due("below", x.at(-1, 0), NONE);
    }

    private static void terms() {
        promise = "6";
        RollsAgree x = new RollsAgree();
        due("week", x.terms(0, 999), 0);
        due("week was", x.terms(0, 0), 999);
        due("rate", x.terms(1, 10), 2);
        due("rate was", x.terms(1, 0), 10);
        due("mood", x.terms(2, 9), 0);
        due("mood was", x.terms(2, 3), 9);
        int[][] bad = {{0, -1}, {0, 1000}, {1, -1}, {1, 11}, {2, -1}, {2, 10}, {3, 0}, {-1, 0}, {FAR, 0}, {0, FAR}};
        for (int[] b : bad) {
            due("terms(" + b[0] + "," + b[1] + ")", x.terms(b[0], b[1]), -1);
        }
        due("week stays", x.count(14), 0);
        due("rate stays", x.count(15), 0);
        due("mood stays", x.count(16), 3);
        due("refused", x.count(8), bad.length);
    }

    private static void feedAndEnd() {
        promise = "7, 8";
        RollsAgree x = new RollsAgree();
        for (int i = 1; i <= 20; i++) {
            due("feed " + i, x.feed(i, 0, 0, 0, 0), 20 * i);
        }
        due("no room", x.feed(0, 0, 0, 0, 0), NONE);
        due("status of feed", x.status(), 0);
        due("tape", x.count(7), 400);
        due("end(400)", x.end(400), 400);
        due("end(401)", x.end(401), NONE);
        due("end(-1)", x.end(-1), NONE);
        due("end(381)", x.end(381), 381);
        due("one too many", x.feed(0, 0, 0, 0, 0), NONE);
        due("tape", x.count(7), 381);
        due("end(380)", x.end(380), 380);
        due("just room", x.feed(0, 0, 0, 0, 0), 400);
        due("end(0)", x.end(0), 0);
        due("end(1)", x.end(1), NONE);
        x.feed(0x010203FF, 0x04058009, 0x63FF0000, 0, 0);
        due("end(12)", x.end(12), 12);
        due("high bytes are no people", x.row(), 1);
        due("but grain", x.grain(), 3);
        x.feed(0x05060708, 0x09FF0102, -1, 0, 0x04050600);
        x.end(6);
        x.feed(0x07080000, 0, 0, 0, 0);
        x.end(9);
        due("two feeds", x.row(), 3);
        due("highest byte first", x.of(1, 0) * 100 + x.of(1, 1), 506);
        due("over the edge of a number", x.of(2, 0) * 100 + x.of(2, 1), 809);
        due("its marks", x.of(2, 3), 3);
        due("behind what was left", x.of(3, 0) * 100 + x.of(3, 1), 708);
    }

    private static void rowAndGrain() {
        promise = "9, 10";
        RollsAgree x = new RollsAgree();
        due("empty", x.row(), -6);
        due("grain", x.grain(), 0);
        put(x, "\u0000\u0000\u0000" + "\tc\u00ff" + "\n\u0000\u0000" + "\u0000d\u0000" + "\u0001");
        due("two come", x.row(), 2);
        due("three are grain", x.grain(), 3);
        due("tape is empty", x.count(7), 0);
        due("firm 9", x.of(1, 0), 9);
        due("age 99", x.of(1, 1), 99);
        due("all marks 3", x.of(1, 3) + x.of(1, 4) + x.of(1, 5) + x.of(1, 6), 12);
        due("they live", x.count(1), 2);
        due("empty again", x.row(), -6);
        due("grain stays", x.grain(), 3);
        x.feed(0, 0, 0, 0, 0);
        due("room for four", x.row(), 4);
        due("two more and two bytes", x.grain(), 3);
        x.feed(0, 0, 0, 0, 0);
        due("no room is no refusal", x.row(), 0);
        due("all grain", x.grain(), 7);
        due("status", x.status(), 0);
        put(x, "\u0001\u0001\u0001");
        x.row();
        due("one grain", x.grain(), 1);
        RollsAgree y = new RollsAgree();
        put(y, "\u0001\u0002\u0003\u0004\u0005\u0006");
        due("no rest", y.row(), 2);
        due("no grain", y.grain(), 0);
        put(y, "\u0001\u0002");
        due("two bytes alone", y.row(), 0);
        due("one grain", y.grain(), 1);
    }

    private static void lawFaults() {
        promise = "11, 13";
        faulty(false, "", 0);
        faulty(false, "   ", 3);
        faulty(false, "bars;", 5);
        faulty(false, "bars;  ", 7);
        faulty(false, ";bars", 0);
        faulty(false, "bars;;bars", 5);
        faulty(false, "bars bars", 5);
        faulty(false, "bars 1", 5);
        faulty(false, "Bars", 0);
        faulty(false, "barss", 0);
        faulty(false, "bars\n", 4);
        faulty(false, "bars\u0000", 4);
        faulty(false, "bars\u00e9", 4);
        faulty(false, "takes", 5);
        faulty(false, "takes if 1=1", 6);
        faulty(false, "takes 1+", 8);
        faulty(false, "takes 1 1", 8);
        faulty(false, "takes 1001", 6);
        faulty(false, "takes 99999999999999999999", 6);
        faulty(false, "takes -1", 6);
        faulty(false, "takes (1)", 6);
        faulty(false, "takes [1", 8);
        faulty(false, "takes [1)", 8);
        faulty(false, "takes []", 7);
        faulty(false, "takes 1]", 7);
        faulty(false, "takes done", 6);
        faulty(false, "takes latest", 6);
        faulty(false, "takes mark 1", 11);
        faulty(false, "takes agrees 1", 6);
        faulty(false, "takes itsif 1=1", 6);
        faulty(false, "takes 1 times 2", 8);
        faulty(false, "pass", 0);
        faulty(false, "sways 1;pass", 8);
        faulty(false, "bars if", 7);
        faulty(false, "bars if 1", 9);
        faulty(false, "bars if 1=", 10);
        faulty(false, "bars if 1=1=1", 11);
        faulty(false, "bars if 1<=1", 10);
        faulty(false, "bars if 1!1", 9);
        faulty(false, "bars if (1=1", 12);
        faulty(false, "bars if (1)=1", 10);
        faulty(false, "bars if [1=1]", 10);
        faulty(false, "bars if 1=1)", 11);
        faulty(false, "bars if not", 11);
        faulty(false, "bars if 1=1 and", 15);
        faulty(false, "bars if 1=1 or or 1=1", 15);
        faulty(false, "bars if 1=1 if 1=1", 12);
        lawful("bars");
        lawful("  bars  ");
        lawful("takes1");
        lawful("takes 1000");
        lawful("takes 0001000");
        lawful("sways[its]if(1=1)");
        lawful("bars if1=1and2>1or not3<1");
        lawful("takes person+other-mark*its/firm%age+[day-week]*mood");
        lawful("takes its ; sways firm ; bars if not ( mark = its )");
        // What was on the tape behind its end is not read.
        RollsAgree x = new RollsAgree();
        put(x, "barsbarsbarsbarsbars");
        x.end(4);
        due("bars", x.law(), 0);
        put(x, "takes 11111111111111");
        x.end(7);
        due("takes 1", x.law(), 1);
        put(x, "takes 1+1 if mark=1;");
        x.end(8);
        due("takes 1+", x.law(), -6);
        due("its end", x.fault(), 8);
        put(x, "bars         ;bars");
        x.end(9);
        due("bars", x.law(), 2);
    }

    private static void lawLimits() {
        promise = "11, 13";
        String twelve = "bars;".repeat(11) + "bars";
        lawful(twelve);
        faulty(false, twelve + ";bars", 60);
        faulty(false, twelve + "; bars", 61);
        faulty(false, twelve + ";", 60);
        faulty(false, twelve + "; ?", 61);
        lawful("takes 0" + "+0".repeat(49));
        faulty(false, "takes 0" + "+0".repeat(50), 106);
        faulty(false, "takes 0" + "+0".repeat(24) + ";takes 0" + "+0".repeat(25), 112);
        lawful("takes 0" + "+0".repeat(24) + ";takes 0" + "+0".repeat(24));
        faulty(false, "takes 0" + "+0".repeat(48) + " if mark=its", 112);
        lawful("takes " + "[".repeat(8) + "1" + "]".repeat(8));
        faulty(false, "takes " + "[".repeat(9) + "1" + "]".repeat(9), 14);
        lawful("bars if " + "(".repeat(8) + "1=1" + ")".repeat(8));
        faulty(false, "bars if " + "(".repeat(9) + "1=1" + ")".repeat(9), 16);
        lawful("bars if ((((([[[1]]]=[[[1]]])))))");
        faulty(false, "bars if (((((([[[1]]]=1))))))", 16);
        lawful("takes [1]+[1]+[1]+[1]+[1]+[1]+[1]+[1]+[1]+[1]");
        lawful("bars if (1=1) and (1=1) or (1=1) and (1=1) or (1=1) and (1=1) or (1=1) and (1=1) or (1=1)");
        String nots = "bars if " + "not ".repeat(97) + "1=1";
        lawful(nots);
        due("97 nots", under(folk(1, 0, 1), nots).asks(0, 1, 0, 2), 0);
        due("96 nots", under(folk(1, 0, 1), "bars if " + "not ".repeat(96) + "1=1").asks(0, 1, 0, 2), 1);
    }

    private static void lawRoom() {
        promise = "11, 13";
        RollsAgree x = new RollsAgree();
        for (int i = 0; i < 5; i++) {
            due("law " + i, law(x, "takes " + i), i);
        }
        due("a law that can't be", law(x, "takes"), -6);
        due("its fault", x.fault(), 5);
        due("the 6th", law(x, "bars"), 5);
        due("no fault", x.fault(), NONE);
        due("no room ahead of reading", law(x, ""), -5);
        put(x, "takes ?");
        due("the 7th", x.law(), -5);
        due("it was not read", x.fault(), NONE);
        due("the tape is empty", x.count(7), 0);
        due("laws", x.count(5), 6);
        orders(x, "pass ?");
        due("7th, bad", law(x, "bars"), -5);
        due("fault of the latest that was read", x.fault(), 5);
    }

    private static void orderFaults() {
        promise = "12, 13";
        faulty(true, "", 0);
        faulty(true, "  ", 2);
        faulty(true, "bars", 0);
        faulty(true, "pass 1", 5);
        faulty(true, "pass;", 5);
        faulty(true, "talk 0 with 1", 13);
        faulty(true, "talk 0 of 1", 7);
        faulty(true, "talk 0 with 1 with 2", 14);
        faulty(true, "talk with 1 of 0", 5);
        faulty(true, "develop", 7);
        faulty(true, "bury if 1=1", 5);
        faulty(true, "pass times", 10);
        faulty(true, "pass times 0", 11);
        faulty(true, "pass times 21", 11);
        faulty(true, "pass times week", 11);
        faulty(true, "pass times 1+1", 12);
        faulty(true, "pass if 1=1 times 2", 12);
        faulty(true, "pass times 2 times 2", 13);
        faulty(true, "bury agrees", 11);
        faulty(true, "bury agrees 8", 12);
        faulty(true, "bury agrees [1]", 12);
        faulty(true, "bury mark 24", 10);
        faulty(true, "bury mark", 9);
        faulty(true, "bury mark week", 10);
        faulty(true, "bury person", 5);
        faulty(true, "bury its", 5);
        faulty(true, "bury mood", 5);
        faulty(true, "pass;".repeat(12) + "pass", 60);
        faulty(true, "bury 0" + "+week".repeat(50), 252);
        faulty(true, "bury " + "[".repeat(9) + "1" + "]".repeat(9), 13);
        // Neither what stands behind agrees and mark nor how often counts among the 50.
        RollsAgree x = folk(1, 0, 0);
        String many = "pass times 2 if mark 0" + "+mark 0".repeat(48);
        due("50 parts", orders(x, many + "=0"), 2);
        due("51 parts", orders(x, many + "=0+0"), -6);
        due("the 51st", x.fault(), 361);
        due("number with noughts", orders(x, "pass times 0002"), 2);
    }

    private static void ordersRun() {
        promise = "12";
        RollsAgree x = folk(1, 0, 1, 2);
        x.roll(0, 7);
        due("all", orders(x, "talk 0 with 2 of 0; talk 2 with 1 of 0; develop 0; bury 1; pass times 3"), 7);
        due("status", x.status(), 0);
        due("fault", x.fault(), NONE);
        due("stopped", x.stopped(), NONE);
        due("0", x.of(0, 3), 2);
        due("1", x.of(1, 3), 2);
        due("done", x.at(0, 2), 1);
        due("dead", x.of(1, 2), 0);
        due("week", x.count(14), 3);
        due("can be undone", x.count(6), 7);
        due("tape", x.count(7), 0);
        due("none runs", orders(x, "bury 0 if 1=2; bury 0 if 1/0=1; bury 9 times 20 if week>3"), 0);
        due("status", x.status(), 0);
        due("each time asked", orders(x, "pass times 20 if week<10"), 7);
        due("week", x.count(14), 10);
        due("most", orders(x, "pass times 20;".repeat(11) + "pass times 20"), 240);
        due("16 are kept", x.count(6), 16);
        due("undone", x.undo(), 3);
        due("week", x.count(14), 249);
    }

    private static void ordersWords() {
        promise = "12";
        RollsAgree x = folk(5, 0, 1, 2);
        x.roll(0, 3);
        x.roll(0, 4);
        x.terms(0, 5);
        due("week", orders(x, "pass if week=5"), 1);
        due("done, this text's", orders(x, "pass if done=0;pass if done=1;pass if done=1;pass if done=2"), 3);
        due("latest at first", orders(x, "pass if latest=0-1"), 1);
        due("latest told", orders(x, "talk 1 with 2 of 0;pass if latest=1;talk 1 with 2 of 0;pass if latest=0"), 4);
        due("latest is this text's", orders(x, "pass if latest=0-1"), 1);
        due("latest talk, not deed", orders(x, "talk 0 with 1 of 1;pass;pass if latest=0"), 3);
        due("agrees", orders(x, "pass if agrees 0=0;talk 0 with 1 of 0;pass if agrees 0=1;pass if agrees 1=1"), 4);
        due("no such roll", orders(x, "pass if agrees 2=0-1;pass if agrees 7=0-1"), 2);
        due("mark", orders(x, "pass if mark 0=2;pass if mark 4=2;pass if mark 8=2;pass if mark 11=0"), 4);
        due("no such person", orders(x, "pass if mark 12=0-1;pass if mark 23=0-1"), 2);
        due("living", orders(x, "pass if living=3;bury 1;pass if living=2;pass if mark 4=2"), 4);
        due("sums choose", orders(x, "talk living-2 with [week-week]+2 of 3*1"), 1);
        due("a dead one", orders(x, "talk living-1 with 2 of 3"), -3);
        due("sums choose", orders(x, "talk living-2 with 2*1 of 6/2;bury done+1"), 2);
        due("2 is dead", x.of(2, 2), 0);
        due("sums choose", orders(x, "develop agrees 0-1;bury living-1"), 2);
        due("0 is dead", x.of(0, 2), 0);
        due("done", x.at(0, 2), 1);
    }

    private static void ordersStop() {
        promise = "12, 14";
        RollsAgree x = folk(1, 0, 1, 2, 0);
        x.roll(0, 7);
        for (int i = 0; i < 16; i++) {
            x.talk(0, 1, i % 4);
        }
        String[] cannot = {"talk 0 with 0 of 0", "talk 0 with 4 of 0", "talk 0 with 3 of 0", "talk 0 with 1 of 4",
            "talk 0-1 with 1 of 0", "develop 0", "develop 1", "develop 0-1", "bury 3", "bury 4", "bury 1000*1000*1000",
            "bury 1/0", "talk 0 with 1 of 0%0", "talk 1000*1000*1000+1 with 1 of 0", "bury 1000*1000*1000*1000"};
        for (String c : cannot) {
            due(c, orders(x, "pass times 3; bury 3;talk 0 with 2 of 0;" + c + ";pass"), -3);
            due("stopped: " + c, x.stopped(), 3);
            due("fault: " + c, x.fault(), NONE);
            due("status: " + c, x.status(), -3);
            due("mark: " + c, x.of(0, 3), 1);
            due("week: " + c, x.count(14), 0);
            due("living: " + c, x.count(1), 4);
            due("kept: " + c, x.count(6), 16);
        }
        due("refused", x.count(10), cannot.length);
        due("none within counts", x.count(8) + x.count(9), 0);
        due("bury twice", orders(x, "bury 2 times 2"), -3);
        due("stopped", x.stopped(), 0);
        due("lives", x.of(2, 2), 1);
        x.terms(0, 990);
        due("to 999", orders(x, "pass times 9"), 9);
        due("beyond", orders(x, "pass if 1=2;pass"), -3);
        due("stopped", x.stopped(), 1);
        due("week", x.count(14), 999);
        due("a text that can't be", orders(x, "pass pass"), -6);
        due("stopped is NONE then", x.stopped(), NONE);
        orders(x, "pass");
        due("stopped", x.stopped(), 0);
        law(x, "bars");
        due("law() leaves it", x.stopped(), 0);
        orders(x, "pass if week<3");
        due("stopped by the latest alone", x.stopped(), NONE);
        RollsAgree y = folk(1, 0, 1);
        y.talk(0, 1, 0);
        orders(y, "pass times 20;bury 7");
        due("what could be undone still can", y.undo(), 0);
        due("and it is", y.of(0, 3), 0);
        due("no more", y.undo(), -3);
    }

    private static void force() {
        promise = "15";
        RollsAgree x = folk(1, 0, 1);
        due("no such", x.force(0), -2);
        due("none", x.force(NONE), NONE);
        due("none is no refusal", x.status(), 0);
        law(x, "takes 1");
        law(x, "takes 2");
        due("not in force by itself", x.count(13), NONE);
        due("0", x.force(0), NONE);
        due("status", x.status(), 0);
        due("1", x.force(1), 0);
        due("in force", x.count(13), 1);
        due("no such", x.force(2), -2);
        due("no such", x.force(-2), -2);
        due("stays", x.asks(0, 1, 0, 0), 2);
        due("none", x.force(NONE), 1);
        due("as without", x.asks(0, 1, 0, 0), 1);
        due("refused", x.count(9), 3);
        due("no other refusal", x.count(8), 0);
    }

    private static void asks() {
        promise = "16";
        RollsAgree x = new RollsAgree();
        x.person(2, 30, marks(0, 1, 2, 3));
        x.person(5, 40, marks(3, 2, 1, 0));
        x.person(5, 50, marks(1, 1, 1, 1));
        due("the firmer's", x.asks(0, 1, 0, 0), 3);
        due("its own", x.asks(1, 0, 0, 0), 3);
        due("as firm, the higher one's", x.asks(1, 2, 0, 0), 1);
        due("as firm, its own", x.asks(2, 1, 0, 0), 1);
        due("firm", x.asks(2, 1, 0, 1), 5);
        due("not barred", x.asks(2, 1, 0, 2), 0);
        int[][] none = {{0, 0, 0, 0}, {0, 3, 0, 0}, {3, 0, 0, 0}, {-1, 0, 0, 0}, {0, -1, 0, 0}, {0, 1, 4, 0},
            {0, 1, -1, 0}, {0, 1, 0, 3}, {0, 1, 0, -1}};
        for (int[] n : none) {
            due("asks none", x.asks(n[0], n[1], n[2], n[3]), NONE);
        }
        due("status", x.status(), 0);
        under(x, "sways 9 if person=0");
        due("sways more", x.asks(0, 1, 0, 0), 0);
        due("is swayed", x.asks(1, 0, 0, 0), 0);
        due("9", x.asks(0, 1, 0, 1), 9);
        due("firm without", x.asks(1, 0, 0, 1), 5);
        under(x, "takes 7");
        due("the nearest above", x.asks(0, 1, 0, 0), 3);
        under(x, "takes 0-1;sways 10");
        due("the nearest below", x.asks(0, 1, 0, 0), 0);
        due("sways at most", x.asks(0, 1, 0, 1), 9);
        under(x, "sways 0-9");
        due("sways at least", x.asks(0, 1, 0, 1), 0);
        due("swayed alike, the higher one's", x.asks(0, 1, 0, 0), 3);
        under(x, "takes 1;takes 2 if mark=0;takes 3/0;takes 3 if 1=2;sways 4;sways 1/0;bars if 1=2;bars if mark=3;bars if 1=2");
        due("the last that holds", x.asks(0, 1, 0, 0), 2);
        due("the one ahead", x.asks(1, 0, 0, 0), 1);
        due("the last that holds", x.asks(0, 1, 0, 1), 4);
        due("any that bars", x.asks(1, 0, 0, 2), 1);
        due("of the other one it is not asked", x.asks(0, 1, 0, 2), 0);
        String[] ofPerson = {"person=0", "other=1", "mark=2", "its=0", "firm=3", "age=31"};
        RollsAgree y = new RollsAgree();
        y.person(3, 31, marks(1, 0, 2, 0));
        y.person(4, 41, marks(2, 3, 0, 0));
        for (String test : ofPerson) {
            under(y, "bars if " + test);
            due(test, y.asks(0, 1, 2, 2), 1);
            due("not of the other: " + test, y.asks(1, 0, 2, 2), 0);
        }
        RollsAgree both = under(folk(1, 2, 3), "bars if mark*10+its=23;takes 1 if mark*10+its=32");
        due("mark and its", both.asks(0, 1, 0, 2), 1);
        due("mark and its", both.asks(1, 0, 0, 2), 0);
        due("mark and its", both.asks(1, 0, 0, 0), 1);
        String[] ofBoth = {"day=2", "week=321", "mood=7"};
        RollsAgree z = new RollsAgree();
        z.person(3, 31, 0);
        z.person(4, 41, 0);
        z.terms(0, 321);
        z.terms(2, 7);
        for (String test : ofBoth) {
            under(z, "bars if " + test);
            due(test, z.asks(0, 1, 2, 2), 1);
            due("of the other, too: " + test, z.asks(1, 0, 2, 2), 1);
        }
        z.force(0);
        due("another day", z.asks(0, 1, 1, 2), 0);
        z.force(NONE);
        z.bury(0);
        due("of dead ones, too", z.asks(0, 1, 0, 1), 3);
    }

    private static void sumsAndTests() {
        promise = "16, terms II";
        String[] threes = {"1+1*2", "[1+2]*1", "7%4", "9-3-3", "24/4/2", "7-5+1", "[0-7]/2+6", "[0-7]%4+6", "7/[0-2]+6",
            "7%[0-4]", "1000*1000*1000/1000/1000-997", "3", "2*2-1", "10-2*3-1", "20%12/2-1"};
        for (String sum : threes) {
            due(sum, under(folk(1, 0, 0), "takes 2;takes " + sum).asks(0, 1, 0, 0), 3);
            due(sum + "=3", under(folk(1, 0, 0), "bars if " + sum + "=3").asks(0, 1, 0, 2), 1);
        }
        String[] broken = {"1/0", "1%0", "[1/0]*0", "0*[1%0]", "1000*1000*1000+1", "0-1000*1000*1000-1",
            "1000*1000*1000*2/2", "3/[mark-its]"};
        for (String sum : broken) {
            due("broken " + sum, under(folk(1, 0, 0), "takes 2;takes " + sum).asks(0, 1, 0, 0), 2);
            String[] tests = {sum + "=3", "not " + sum + "=3", sum + "<1 or 1=1", "1=1 and 0<" + sum, "1=2 or " + sum + ">0",
                "not(" + sum + "=0)", "(" + sum + "=0 or 1=1) and 1=1", sum + ">0 and 1=2 or 1=1"};
            for (String test : tests) {
                RollsAgree x = under(folk(1, 0, 0), "bars if " + test + ";takes 3 if " + test);
                due("broken test bars " + test, x.asks(0, 1, 0, 2), 0);
                due("broken test takes " + test, x.asks(0, 1, 0, 0), 0);
            }
        }
        String[] so = {"1=1", "1<2", "2>1", "not 1=2", "not not 1=1", "1=1 or 1=2", "1=2 or 1=1", "1=1 or 1/0=1",
            "1=2 and 1/0=1 or 1=1", "1=1 or 1=1 and 1=2", "not 1=1 or 1=1", "not 1=2 and 1=1", "(1=2 or 1=1) and 1=1",
            "not (1=2 and 1/0=1)", "1000*1000*1000=1000*1000*1000", "0-1000*1000*1000<0", "1=2 or 1=2 or 1=1",
            "1=1 and 1=1 and 1=1", "[1+1]*2=4", "0-1<0", "not 0=1", "not 5=7", "not (3<1 or 4<1)"};
        for (String test : so) {
            due("so " + test, under(folk(1, 0, 0), "bars if " + test).asks(0, 1, 0, 2), 1);
        }
        String[] notSo = {"1=2", "1<1", "1>1", "2<1", "not 1=1", "1=1 and 1=2", "1=2 and 1/0=1", "1=2 or 1=2",
            "not (1=1 or 1/0=1)", "1=2 and 1=1 or 1=2", "(1=1 or 1=1) and 1=2", "not not 1=2", "1=1 and 1=1 and 1=2", "not 5=5", "not 7<9",
            "not (3>1 and 4>2)"};
        for (String test : notSo) {
            due("not so " + test, under(folk(1, 0, 0), "bars if " + test).asks(0, 1, 0, 2), 0);
        }
    }

    private static void talk() {
        promise = "17";
        RollsAgree x = folk(4, 0, 1, 1);
        due("one changes", x.talk(0, 1, 0), 1);
        due("it has", x.of(0, 3), 1);
        due("none changes", x.talk(2, 1, 0), 0);
        due("itself", x.talk(1, 1, 0), -1);
        due("itself, and there is no such", x.talk(9, 9, 0), -1);
        due("day", x.talk(0, 1, 4), -1);
        due("day", x.talk(0, 1, -1), -1);
        due("day ahead of who", x.talk(0, 9, 4), -1);
        due("no such", x.talk(0, 3, 0), -2);
        due("no such", x.talk(-1, 0, 0), -2);
        due("no such", x.talk(FAR, 0, 0), -2);
        x.bury(2);
        due("dead", x.talk(0, 2, 0), -3);
        due("dead", x.talk(2, 0, 0), -3);
        RollsAgree y = under(folk(4, 0, 1), "takes its");
        due("both change", y.talk(0, 1, 0), 2);
        due("as it was ahead", y.of(0, 3) * 10 + y.of(1, 3), 10);
        due("the other way round, too", y.talk(1, 0, 0), 2);
        due("as ahead", y.of(0, 3) * 10 + y.of(1, 3), 1);
        RollsAgree z = under(folk(4, 0, 1, 2), "bars if person=0 and other=1");
        due("barred", z.talk(0, 1, 0), -3);
        due("barred by the other", z.talk(1, 0, 0), -3);
        due("not barred", z.talk(0, 2, 0), 1);
        due("other days stay", z.of(0, 4), 0);
        RollsAgree w = folk(4, 3, 0);
        due("the higher one's, told first or not", w.talk(1, 0, 0), 1);
        due("marks", w.of(0, 3) * 10 + w.of(1, 3), 0);
    }

    private static void develop() {
        promise = "18";
        RollsAgree x = folk(1, 3, 3, 1);
        x.roll(0, 3);
        x.roll(0, 7);
        x.roll(0, 4);
        x.roll(1, 7);
        due("its mark", x.develop(0), 3);
        due("done already", x.develop(0), -3);
        due("does not agree", x.develop(1), -3);
        due("no such", x.develop(4), -2);
        due("no such", x.develop(-1), -2);
        due("another day", x.develop(3), 0);
        x.bury(2);
        due("agrees now", x.develop(1), 3);
        due("done already", x.develop(1), -3);
        due("done", x.at(1, 2) * 10 + x.at(2, 2), 10);
        due("nobody lives", x.develop(2), 100);
        due("nobody lives, done", x.develop(2), -3);
        due("done", x.count(3), 4);
    }

    private static void bury() {
        promise = "19";
        RollsAgree x = folk(1, 0, 0, 0);
        due("two live", x.bury(1), 2);
        due("dead", x.bury(1), -3);
        due("no such", x.bury(3), -2);
        due("no such", x.bury(-1), -2);
        due("one lives", x.bury(0), 1);
        due("none", x.bury(2), 0);
        due("people stay", x.count(0), 3);
        due("living", x.count(1), 0);
        due("a number goes on", x.person(0, 0, 0), 3);
        due("it lives", x.count(1), 1);
    }

    private static void pass() {
        promise = "20";
        RollsAgree x = new RollsAgree();
        due("1", x.pass(), 1);
        due("2", x.pass(), 2);
        x.terms(0, 998);
        due("999", x.pass(), 999);
        due("no more", x.pass(), -3);
        due("status", x.status(), -3);
        due("week", x.count(14), 999);
        due("kept", x.count(6), 1);
    }

    private static void undo() {
        promise = "21";
        RollsAgree x = under(folk(1, 0, 1, 2), "takes its");
        x.roll(0, 4);
        due("nothing", x.undo(), -3);
        x.talk(0, 1, 0);
        x.talk(2, 1, 0);
        x.develop(0);
        x.bury(1);
        x.pass();
        x.talk(1, 1, 0);
        due("five", x.count(6), 5);
        due("pass", x.undo(), 3);
        due("week", x.count(14), 0);
        due("bury", x.undo(), 2);
        due("lives", x.of(1, 2), 1);
        due("develop", x.undo(), 1);
        due("not done", x.at(0, 2), 0);
        due("talk", x.undo(), 0);
        due("marks", x.of(0, 3) * 100 + x.of(1, 3) * 10 + x.of(2, 3), 102);
        due("talk", x.undo(), 0);
        due("marks", x.of(0, 3) * 100 + x.of(1, 3) * 10 + x.of(2, 3), 12);
        due("nothing", x.undo(), -3);
        for (int i = 0; i < 20; i++) {
            x.pass();
        }
        due("16 are kept", x.count(6), 16);
        for (int i = 0; i < 16; i++) {
            due("pass " + i, x.undo(), 3);
        }
        due("the 17th", x.undo(), -3);
        due("week", x.count(14), 4);
        x.pass();
        x.force(NONE);
        x.told(0, 1, 0);
        x.forget();
        law(x, "bars");
        x.image(0);
        x.years(1, 1);
        x.person(-1, 0, 0);
        x.roll(9, 9);
        x.terms(9, 9);
        x.row();
        due("these leave it", x.count(6), 1);
        x.roll(0, 1);
        due("roll", x.count(6), 0);
        due("nothing ahead of it", x.undo(), -3);
        x.pass();
        x.terms(2, 0);
        due("terms", x.count(6), 0);
        x.pass();
        x.person(1, 1, 1);
        due("person", x.count(6), 0);
        x.pass();
        put(x, "????");
        due("grain alone", x.row(), 0);
        due("row", x.count(6), 0);
        x.pass();
        x.back(0);
        due("back", x.count(6), 0);
        due("nothing behind back", x.undo(), -3);
        x.pass();
        x.back(1);
        due("a refused back", x.count(6), 1);
        due("undone", x.undo(), 3);
        RollsAgree y = folk(1, 0, 1);
        y.talk(0, 1, 0);
        y.talk(0, 1, 0);
        due("a talk that changed nothing", y.undo(), 0);
        due("stays", y.of(0, 3), 1);
        due("the other one", y.undo(), 0);
        due("is back", y.of(0, 3), 0);
        RollsAgree z = new RollsAgree();
        for (int i = 0; i < 6; i++) {
            z.person(i, i, marks(i % 4, (i + 1) % 4, (i + 2) % 4, (i + 3) % 4));
        }
        for (int day = 0; day < 4; day++) {
            due("talk of day " + day, z.talk(5 - day, day / 2, day), (5 - day) % 4 == day / 2 ? 0 : 1);
        }
        for (int day = 3; day >= 0; day--) {
            due("undone of day " + day, z.undo(), 0);
            for (int i = 0; i < 6; i++) {
                due("mark of " + i + " of day " + day, z.of(i, 3 + day), (i + day) % 4);
            }
        }
    }

    private static void soonest() {
        promise = "22";
        RollsAgree x = folk(5, 0, 1, 2);
        x.roll(0, 7);
        x.roll(1, 7);
        due("two talks", x.soonest(0, NONE), 2);
        due("first", x.soonest(0, 0), 2);
        due("second", x.soonest(0, 1), 12);
        due("third", x.soonest(0, 2), NONE);
        due("below", x.soonest(0, -2), NONE);
        due("no such", x.soonest(2, NONE), NONE);
        due("no such", x.soonest(-1, NONE), NONE);
        due("agrees now", x.soonest(1, NONE), 0);
        due("no first", x.soonest(1, 0), NONE);
        due("only on paper", x.of(0, 3), 0);
        x.bury(2);
        due("the dead don't talk", x.soonest(0, NONE), 1);
        due("first", x.soonest(0, 0), 1);
        x.bury(0);
        due("one alone agrees", x.soonest(0, NONE), 0);
        RollsAgree y = under(folk(5, 0, 1, 0), "takes its");
        y.roll(0, 3);
        due("with one who is not on it", y.soonest(0, NONE), 1);
        due("first", y.soonest(0, 0), 12);
        RollsAgree z = under(folk(5, 0, 1), "takes mark");
        z.roll(0, 3);
        due("it can't be", z.soonest(0, NONE), NONE);
        due("it can't be", z.soonest(0, 0), NONE);
        RollsAgree w = under(folk(5, 0, 1, 1), "bars if person+other=1 and week<4");
        w.roll(0, 3);
        due("barred two", w.soonest(0, 0), 2);
        w.terms(0, 4);
        due("week as now", w.soonest(0, 0), 1);
        RollsAgree v = under(folk(5, 0, 3), "takes mark;takes mark+1 if person=0");
        v.roll(0, 3);
        due("three times", v.soonest(0, NONE), 3);
        due("the same", v.soonest(0, 0) * 100 + v.soonest(0, 1) * 10 + v.soonest(0, 2), 111);
        due("no fourth", v.soonest(0, 3), NONE);
        v.talk(0, 1, 0);
        v.talk(0, 1, 0);
        v.talk(0, 1, 0);
        v.develop(0);
        due("of a done one", v.soonest(0, NONE), 0);
    }

    private static void endsAndHouse() {
        promise = "23, 24";
        RollsAgree x = folk(5, 0, 1, 2);
        x.roll(0, 3);
        x.roll(0, 7);
        x.roll(1, 1);
        due("1 or 2", x.ends(0), 6);
        due("2", x.ends(1), 4);
        due("now", x.ends(2), 1);
        due("no such", x.ends(3), NONE);
        due("no such", x.ends(-1), NONE);
        due("two", x.house(0, 0), 2);
        due("who", x.house(0, 1), 3);
        due("three", x.house(1, 0), 3);
        due("who", x.house(1, 1), 7);
        due("nobody", x.house(2, 0), 0);
        due("nobody", x.house(2, 1), 0);
        due("what 2", x.house(0, 2), NONE);
        due("what -1", x.house(0, -1), NONE);
        due("no such", x.house(3, 0), NONE);
        x.bury(2);
        due("the dead don't talk", x.ends(0), 2);
        x.bury(0);
        due("one alone", x.ends(0), 2);
        x.bury(1);
        due("on no mark", x.ends(0), 0);
        due("nobody needed", x.house(0, 0), 0);
        due("agrees", x.soonest(0, NONE), 0);
        RollsAgree y = under(folk(5, 0, 1, 1, 0), "bars if person<2 and other<2");
        y.roll(0, 3);
        due("two ways, the lower one", y.house(0, 1), 5);
        due("two", y.house(0, 0), 2);
        due("first", y.soonest(0, 0), 2);
        due("both marks", y.ends(0), 3);
        y.bury(2);
        due("the other way", y.house(0, 1), 10);
        due("one mark", y.ends(0), 1);
        y.bury(3);
        due("none", y.house(0, 0), NONE);
        due("none", y.house(0, 1), NONE);
        due("on none", y.ends(0), 0);
        RollsAgree z = under(folk(5, 0, 0, 3),
                "takes mark;takes mark+1 if person=0 and other=1;takes its if person=0 and other=2 and mark<3");
        z.roll(0, 5);
        due("one talk", z.soonest(0, 0), 2);
        due("two can, more slowly", z.house(0, 1), 3);
        RollsAgree w = under(folk(5, 0, 3, 3),
                "takes mark;takes mark+1 if person=0 and other=2;takes 3 if person=0 and other=1 and mark=1");
        w.roll(0, 3);
        due("three are faster", w.soonest(0, NONE), 2);
        due("first", w.soonest(0, 0), 2);
        due("then", w.soonest(0, 1), 1);
        due("two are enough", w.house(0, 1), 5);
        RollsAgree v = under(folk(5, 0, 0, 1), "takes 2 if mark=0;takes 1 if mark=2;takes 0 if mark=1");
        v.roll(0, 3);
        due("now too, and later", v.ends(0), 7);
        due("now", v.house(0, 0), 0);
        RollsAgree u = folk(5, 0, 1, 2, 1, 0, 3);
        u.roll(0, 63);
        due("all six", u.house(0, 1), 63);
        due("five talks", u.soonest(0, NONE), 5);
        due("first", u.soonest(0, 0), 5);
        due("last", u.soonest(0, 4), 45);
        u.talk(0, 5, 0);
        due("five", u.house(0, 1), 62);
    }

    private static void givings() {
        promise = "25";
        RollsAgree x = folk(1, 1, 2, 2, 3, 0, 3);
        due("no rolls", x.givings(0), 0);
        due("own", x.givings(1), 1);
        x.roll(0, 3);
        due("alike: the lowest", x.givings(5), 1);
        due("one gives", x.givings(0), 1);
        x.roll(0, 6);
        due("a chain: the commonest", x.givings(1), 2);
        due("one gives", x.givings(0), 1);
        x.roll(0, 56);
        due("another heap", x.givings(17), 3);
        due("two give", x.givings(0), 2);
        x.roll(1, 63);
        due("another day", x.givings(0), 2);
        due("another day", x.givings(2), 0);
        x.bury(1);
        due("the dead don't link", x.givings(1), 1);
        due("the dead keep their own", x.givings(5), 2);
        due("one gives", x.givings(0), 1);
        x.undo();
        x.bury(4);
        due("the dead give nothing", x.givings(17), 0);
        due("one gives", x.givings(0), 1);
        due("no such", x.givings(25), NONE);
        due("below", x.givings(-1), NONE);
        due("far", x.givings(FAR), NONE);
        due("far below", x.givings(FAR_BELOW), NONE);
        due("last", x.givings(24), 0);
        due("only on paper", x.of(0, 3), 1);
        RollsAgree y = folk(1, 2, 2, 1);
        y.roll(0, 3);
        y.roll(0, 6);
        due("2 gives in", y.givings(9), 2);
        y.develop(0);
        due("by rolls not done", y.givings(5), 1);
        due("one gives", y.givings(0), 1);
        due("0 is on none", y.givings(1), 2);
        RollsAgree z = folk(1, 1, 0, 0);
        z.roll(0, 7);
        due("the commonest is 0", z.givings(1), 0);
        due("one gives", z.givings(0), 1);
    }

    private static void toldAndForget() {
        promise = "26, 27";
        RollsAgree x = folk(1, 0, 0, 0);
        x.bury(2);
        due("one", x.told(0, 1, 0), 1);
        due("of a dead one", x.told(2, 1, 3), 2);
        due("day", x.told(0, 1, 4), -1);
        due("day", x.told(0, 1, -1), -1);
        due("itself", x.told(1, 1, 0), -1);
        due("itself, and no such", x.told(5, 5, 0), -1);
        due("no such", x.told(0, 3, 0), -2);
        due("no such", x.told(-1, 0, 0), -2);
        for (int i = 3; i <= 8; i++) {
            due("told " + i, x.told(0, 1, 1), i);
        }
        due("the 9th", x.told(0, 1, 0), -5);
        due("no such ahead of no room", x.told(0, 3, 0), -2);
        due("bad ahead of no room", x.told(0, 0, 0), -1);
        due("told", x.count(4), 8);
        due("forget", x.forget(), 8);
        due("status stays", x.status(), -1);
        due("told", x.count(4), 0);
        due("forget", x.forget(), 0);
        due("one", x.told(0, 1, 0), 1);
    }

    private static void were() {
        promise = "28";
        RollsAgree x = folk(5, 1, 1, 2);
        due("as now", x.were(0, NONE, 0), 1);
        due("as now", x.were(0, 0, 2), 2);
        x.told(0, 1, 0);
        due("four", x.were(0, NONE, 9), 4);
        for (int i = 0; i < 4; i++) {
            due("row " + i, x.were(0, i, 0), i);
            due("row " + i, x.were(0, i, 1), 1);
            due("row " + i, x.were(0, i, 2), 2);
        }
        due("row 4", x.were(0, 4, 0), NONE);
        due("row -2", x.were(0, -2, 0), NONE);
        due("no such", x.were(0, 0, 3), NONE);
        due("no such", x.were(0, 0, -1), NONE);
        due("day", x.were(4, NONE, 0), NONE);
        due("day", x.were(-1, NONE, 0), NONE);
        due("another day", x.were(1, NONE, 0), 1);
        x.bury(0);
        due("the dead lived", x.were(0, NONE, 0), 4);
        x.told(1, 2, 0);
        due("it can't be: 1 would have 2", x.were(0, NONE, 0), 0);
        due("no row", x.were(0, 0, 0), NONE);
        RollsAgree y = under(folk(5, 1, 1), "bars if mark=2");
        y.told(1, 0, 0);
        due("barred ones not", y.were(0, NONE, 0), 3);
        due("rows", y.were(0, 0, 0) * 100 + y.were(0, 1, 0) * 10 + y.were(0, 2, 0), 13);
        RollsAgree z = folk(5, 2, 2, 2);
        z.told(0, 1, 0);
        z.told(1, 2, 0);
        z.told(0, 1, 0);
        due("in order", z.were(0, NONE, 0), 16);
        due("rows go by numbers", z.were(0, 5, 0) * 10 + z.were(0, 5, 1), 11);
        z.forget();
        z.told(0, 1, 0);
        z.told(1, 2, 0);
        due("0 took what 1 had", z.were(0, NONE, 0), 4);
        due("so 1 had 2", z.were(0, 3, 1), 2);
        due("and 0 any", z.were(0, 3, 0), 3);
        RollsAgree w = new RollsAgree();
        due("nobody: one row", w.were(3, NONE, 0), 1);
        due("nobody in it", w.were(3, 0, 0), NONE);
        RollsAgree all = under(folk(5, 3, 3, 3, 3, 3, 3), "takes 3");
        all.told(0, 1, 0);
        all.told(2, 3, 0);
        all.told(4, 5, 0);
        due("all rows", all.were(0, NONE, 0), 4096);
        due("the last", all.were(0, 4095, 5), 3);
        due("beyond", all.were(0, 4096, 5), NONE);
        due("1000 is 033220", all.were(0, 1000, 1), 3);
        due("1000 is 033220", all.were(0, 1000, 0), 0);
        RollsAgree v = under(folk(5, 2, 2), "takes week");
        v.told(0, 1, 0);
        due("week as now", v.were(0, NONE, 0), 0);
        v.terms(0, 2);
        due("week as now", v.were(0, NONE, 0), 16);
    }

    private static void ask() {
        promise = "29";
        RollsAgree x = folk(5, 1, 1, 2);
        due("one row: the lowest", x.ask(0, 0), 0);
        due("one left", x.ask(0, 1), 1);
        x.told(1, 2, 0);
        due("no row", x.ask(0, 0), NONE);
        due("no row", x.ask(0, 1), NONE);
        due("another day", x.ask(1, 0), 0);
        x.told(1, 2, 1);
        due("1 had any", x.ask(1, 0), 1);
        due("one left", x.ask(1, 1), 1);
        due("what 2", x.ask(1, 2), NONE);
        due("what -1", x.ask(1, -1), NONE);
        due("day 4", x.ask(4, 0), NONE);
        due("day -1", x.ask(-1, 0), NONE);
        RollsAgree y = folk(5, 2, 2, 2);
        y.told(0, 1, 0);
        y.told(1, 2, 0);
        y.told(0, 1, 0);
        y.bury(0);
        due("the lowest, a dead one too", y.ask(0, 0), 0);
        due("16 rows by four", y.ask(0, 1), 4);
        RollsAgree w = new RollsAgree();
        due("nobody", w.ask(0, 0), NONE);
        due("nobody", w.ask(0, 1), NONE);
        RollsAgree z = under(folk(5, 1, 1), "bars if mark=2");
        z.told(0, 1, 0);
        due("three rows", z.ask(0, 0), 0);
        due("one left", z.ask(0, 1), 1);
        // 0 had 0 to 2 (then 1 tells it nothing), 1 had 3 in most.
        RollsAgree v = under(folk(5, 3, 3), "takes 3;bars if person=0 and mark=its and mark<3");
        v.told(0, 1, 0);
        due("all but 00 11 22", v.were(0, NONE, 0), 13);
        due("as few as can be", v.ask(0, 1), 4);
        due("the lowest", v.ask(0, 0), 0);
    }

    private static void chatter() {
        promise = "30";
        RollsAgree x = folk(5, 0, 1, 2);
        // (0 1): 1 1 2, (0 2): 2 1 2, (1 2): 2 2 2; then nothing.
        due("two rounds", x.chatter(0, NONE), 2);
        due("all 2", x.chatter(0, 0) + x.chatter(0, 1) + x.chatter(0, 2), 6);
        due("only on paper", x.of(0, 3), 0);
        due("nothing to change", x.chatter(1, NONE), 1);
        due("no such", x.chatter(0, 3), NONE);
        due("no such", x.chatter(0, -2), NONE);
        due("day", x.chatter(4, NONE), NONE);
        due("day", x.chatter(-1, 0), NONE);
        x.bury(2);
        due("the dead don't talk", x.chatter(0, 0), 1);
        due("theirs stays", x.chatter(0, 2), 2);
        RollsAgree v = new RollsAgree();
        due("nobody", v.chatter(0, NONE), 1);
        due("nobody, day", v.chatter(4, NONE), NONE);
        due("nobody", v.chatter(0, 0), NONE);
        RollsAgree y = under(folk(5, 0, 1), "takes its");
        due("never", y.chatter(0, NONE), NONE);
        due("never", y.chatter(0, 0), NONE);
        due("alike at once", y.chatter(1, NONE), 1);
        // 0 changes with 1 and changes back with 2: the row is as ahead, but marks changed in the round.
        RollsAgree z = under(folk(5, 0, 0, 0), "takes mark;takes 1-mark if person=0");
        due("there and back", z.chatter(0, NONE), NONE);
        due("49 rounds", clock(2).chatter(0, NONE), 49);
        due("50 rounds", clock(1).chatter(0, NONE), 50);
        due("its mark then", clock(1).chatter(0, 3), 3);
        due("its mark then", clock(1).chatter(0, 0), 0);
        due("51 rounds", clock(0).chatter(0, NONE), NONE);
        due("51 rounds", clock(0).chatter(0, 3), NONE);
        RollsAgree w = under(folk(5, 0, 1, 2), "bars if mark=1");
        due("barred ones don't", w.chatter(0, NONE), 2);
        due("barred ones don't", w.chatter(0, 0) * 100 + w.chatter(0, 1) * 10 + w.chatter(0, 2), 212);
    }

    private static void chance() {
        promise = "31";
        RollsAgree x = folk(5, 0, 1, 1);
        x.roll(0, 3);
        x.roll(0, 6);
        x.roll(0, 7);
        x.roll(0, 1);
        due("agrees now", x.chance(1, 0), 1000000);
        due("does not", x.chance(0, 0), 0);
        // 800000 to live: none of two 40000, one of two 160000 each.
        due("one week", x.chance(0, 1), 360000);
        due("alike", x.chance(1, 99), 1000000);
        // None 8000, one 32000 each, 1 with 2 128000.
        due("three", x.chance(2, 1), 232000);
        x.terms(1, 3);
        // To live behind 7 weeks: 700000 490000 343000 240100 168070 117649 82354.
        due("cut each time", x.chance(0, 7), 842074 + 75571 + 75571);
        x.terms(1, 10);
        due("all die", x.chance(2, 1), 1000000);
        due("not yet", x.chance(2, 0), 0);
        x.terms(1, 0);
        due("none dies", x.chance(2, 99), 0);
        x.terms(1, 2);
        due("n 100", x.chance(0, 100), NONE);
        due("n -1", x.chance(0, -1), NONE);
        due("no such", x.chance(4, 0), NONE);
        due("no such", x.chance(-1, 0), NONE);
        x.bury(0);
        due("the dead are dead", x.chance(2, 0), 1000000);
        x.bury(1);
        x.bury(2);
        due("nobody lives", x.chance(2, 5), 1000000);
        // 343000 to live: 283593, three times 148055, three times 77295, 40353.
        RollsAgree y = folk(5, 1, 1, 1);
        y.roll(0, 7);
        y.terms(1, 3);
        due("cut parts get lost", y.chance(0, 3), 999996);
    }

    private static void years() {
        promise = "32, 33";
        RollsAgree x = under(folk(5, 0, 0, 0), "takes 3");
        due("nothing drawn", x.drawn(0, 0), NONE);
        // 0, 12345 (day 1), 628841 (of 3: 2), 621889 (of 3: 1).
        due("one week", x.years(0, 1), 2);
        due("1 talked", x.drawn(1, 1), 3);
        due("2 talked", x.drawn(2, 1), 3);
        due("0 did not", x.drawn(0, 1), 0);
        due("another day", x.drawn(1, 0), 0);
        due("on paper", x.of(1, 4), 0);
        due("week stays", x.count(14), 0);
        due("no such", x.drawn(3, 0), NONE);
        due("no such", x.drawn(-1, 0), NONE);
        due("day", x.drawn(0, 4), NONE);
        due("day", x.drawn(0, -1), NONE);
        int[][] bad = {{-1, 1}, {1000001, 1}, {0, 0}, {0, 101}, {0, -1}};
        for (int[] b : bad) {
            due("years(" + b[0] + "," + b[1] + ")", x.years(b[0], b[1]), -1);
            due("refused ones keep the latest", x.drawn(1, 1), 3);
        }
        due("the last seed", x.years(1000000, 100) >= 0 ? 1 : 0, 1);
        x.years(0, 1);
        x.person(1, 1, 255);
        due("she was not there", x.drawn(3, 0), NONE);
        // 628841 and 621889 are both 1 of four: nobody talks with itself.
        due("itself", x.years(0, 1), 0);
        due("now she was", x.drawn(3, 0), 3);
        RollsAgree y = under(folk(5, 0, 0, 0), "takes week");
        y.terms(0, 2);
        due("week on paper", y.years(0, 1), 2);
        due("it took the week", y.drawn(1, 1), 2);
        y.terms(0, 999);
        due("at 999 it ends", y.years(0, 100), 0);
        due("nothing happened", y.drawn(1, 1), 0);
        y.terms(0, 998);
        due("one week yet", y.years(0, 100), 2);
        due("one week yet", y.drawn(1, 1), 3);
        y.bury(1);
        due("the dead don't talk", y.years(0, 100), 0);
        due("barred", under(folk(5, 0, 0, 0), "takes 3;bars if person=2").years(0, 1), 0);
        RollsAgree w = new RollsAgree();
        due("bad ahead of nobody", w.years(-1, 1), -1);
        due("nobody", w.years(0, 1), -3);
        due("nothing", w.drawn(0, 0), NONE);
        RollsAgree v = under(folk(5, 0, 0, 0), "takes 1 if week=0;takes 2 if week=1");
        due("the weeks pass on paper", v.years(0, 2), changesOfTwoWeeks());
        RollsAgree swap = new RollsAgree();
        swap.person(5, 0, marks(0, 2, 0, 0));
        swap.person(5, 0, marks(0, 3, 0, 0));
        swap.person(5, 0, marks(0, 1, 0, 0));
        under(swap, "takes its");
        due("both change", swap.years(0, 1), 2);
        due("each its own", swap.drawn(0, 1) * 100 + swap.drawn(1, 1) * 10 + swap.drawn(2, 1), 213);
        // There and back: each change counts.
        RollsAgree u = under(folk(5, 0, 0), "takes 1-mark");
        due("each change counts", u.years(7, 100) > 16 ? 1 : 0, 1);
    }

    /** The first week of seed 0 changes two marks; the second, worked out here, two more if two talk in it. */
    private static int changesOfTwoWeeks() {
        long s = 621889;
        s = (s * 1103 + 12345) % 1000003;
        s = (s * 1103 + 12345) % 1000003;
        long one = s % 3;
        s = (s * 1103 + 12345) % 1000003;
        long other = s % 3;
        return one == other ? 2 : 4;
    }

    private static void images() {
        promise = "34, 35";
        RollsAgree x = folk(5, 0, 1);
        due("k 2", x.image(2), -1);
        due("k -1", x.image(-1), -1);
        due("k 2", x.back(2), -1);
        due("k -1", x.back(-1), -1);
        due("not kept", x.back(0), -2);
        due("not kept", x.back(1), -2);
        x.roll(0, 3);
        x.told(0, 1, 0);
        law(x, "takes 2");
        x.force(0);
        x.terms(1, 7);
        due("image", x.image(0), 0);
        x.talk(0, 1, 0);
        due("develop", x.develop(0), 2);
        x.bury(0);
        x.pass();
        x.person(1, 2, 3);
        x.roll(1, 1);
        x.told(1, 0, 1);
        x.terms(1, 5);
        x.terms(2, 4);
        law(x, "takes 3");
        x.force(1);
        x.years(0, 50);
        int drawn = x.drawn(2, 0);
        orders(x, "bury 9");
        put(x, "\u0000?");
        x.row();
        orders(x, "bury 1;bury 9");
        put(x, "pass");
        due("image", x.image(1), 0);
        x.pass();
        due("back", x.back(0), 0);
        int[] due = {2, 2, 1, 0, 1, 1, 0, 4};
        for (int i = 0; i < due.length; i++) {
            due("back: count(" + i + ")", x.count(i), due[i]);
        }
        due("force", x.count(13), 0);
        due("week", x.count(14), 0);
        due("rate", x.count(15), 7);
        due("mood", x.count(16), 0);
        due("mark", x.of(0, 3), 0);
        due("not done", x.at(0, 2), 0);
        due("law", x.asks(0, 1, 0, 0), 2);
        due("years stay", x.drawn(2, 0), drawn);
        due("stopped stays", x.stopped(), 1);
        due("grain stays", x.grain(), 1);
        due("refused by -1 stay", x.count(8), 4);
        due("refused by -2 stay", x.count(9), 2);
        due("refused by -3 stay", x.count(10), 2);
        due("nothing can be undone", x.undo(), -3);
        due("the tape stays", x.orders(), 1);
        law(x, "?");
        x.person(9, 9, 9);
        due("to the other", x.back(1), 0);
        due("fault stays", x.fault(), 0);
        due("people", x.count(0), 3);
        due("dead", x.of(0, 2), 0);
        due("done", x.at(0, 2), 1);
        due("laws", x.count(5), 2);
        due("force", x.count(13), 1);
        due("week", x.count(14), 1);
        due("told", x.count(4), 2);
        due("and again", x.back(0), 0);
        due("images stay", x.count(0), 2);
        law(x, "takes 1");
        due("a law in the other's place", x.force(1), 0);
        due("it is another one", x.asks(0, 1, 0, 0), 1);
        due("back", x.back(1), 0);
        due("and here it is not", x.asks(0, 1, 0, 0), 3);
        x.bury(1);
        x.image(1);
        x.back(0);
        x.back(1);
        due("kept anew", x.of(1, 2), 0);
        RollsAgree y = folk(5, 0, 3);
        y.image(0);
        under(y, "takes 1");
        y.image(1);
        y.back(0);
        under(y, "takes 2");
        due("the newer law 0", y.asks(0, 1, 0, 0), 2);
        y.back(1);
        due("the older law 0", y.asks(0, 1, 0, 0), 1);
        y.back(0);
        due("no law", y.asks(0, 1, 0, 0), 3);
    }

    private static void count() {
        promise = "36";
        RollsAgree x = folk(5, 0, 0, 0);
        x.roll(0, 1);
        x.roll(0, 2);
        x.develop(0);
        x.bury(2);
        x.told(0, 1, 0);
        law(x, "bars");
        law(x, "bars");
        x.force(1);
        x.feed(0, 0, 0, 0, 0);
        x.end(17);
        x.person(10, 0, 0);
        x.force(2);
        x.force(3);
        x.bury(2);
        x.bury(2);
        x.bury(2);
        int[] due = {3, 2, 2, 1, 1, 2, 2, 17, 1, 2, 3, 0, 0, 1, 0, 2, 0};
        for (int i = 0; i < due.length; i++) {
            due("count(" + i + ")", x.count(i), due[i]);
        }
        x.person(0, 0, 0);
        x.person(0, 0, 0);
        x.person(0, 0, 0);
        x.person(0, 0, 0);
        x.orders();
        x.row();
        x.terms(0, 5);
        x.terms(1, 6);
        x.terms(2, 7);
        due("-5", x.count(11), 1);
        due("-6", x.count(12), 2);
        due("week", x.count(14), 5);
        due("rate", x.count(15), 6);
        due("mood", x.count(16), 7);
        due("17", x.count(17), NONE);
        due("-1", x.count(-1), NONE);
        due("far", x.count(FAR), NONE);
        due("far below", x.count(FAR_BELOW), NONE);
        int refused = x.count(8) + x.count(9) + x.count(10) + x.count(11) + x.count(12);
        x.of(9, 9);
        x.at(9, 9);
        x.end(-1);
        x.asks(0, 0, 0, 0);
        x.soonest(9, 9);
        x.ends(9);
        x.house(9, 9);
        x.givings(-1);
        x.were(9, 9, 9);
        x.ask(9, 9);
        x.chatter(9, 9);
        x.chance(9, 9);
        x.drawn(9, 9);
        due("NONE is no refusal", x.count(8) + x.count(9) + x.count(10) + x.count(11) + x.count(12), refused);
    }

    private static void status() {
        promise = "37";
        RollsAgree x = new RollsAgree();
        int[] due = {-1, -1, -1, -6, -6, -6, -2, -2, -2, -2, -3, -2, -3, -1, -2};
        for (int i = 0; i < due.length; i++) {
            x.pass();
            x.terms(0, 0);
            due("fine ahead of " + i, x.status(), 0);
            due("call " + i, refusedCall(x, i), due[i]);
            due("status of " + i, x.status(), due[i]);
            x.of(0, 0);
            x.at(0, 0);
            x.end(9);
            x.feed(0, 0, 0, 0, 0);
            x.end(0);
            x.grain();
            x.fault();
            x.stopped();
            x.asks(0, 0, 0, 0);
            x.soonest(0, 0);
            x.ends(0);
            x.house(0, 0);
            x.givings(0);
            x.forget();
            x.were(0, 0, 0);
            x.ask(0, 0);
            x.chatter(0, 0);
            x.chance(0, 0);
            x.drawn(0, 0);
            x.count(0);
            due("status stays of " + i, x.status(), due[i]);
        }
    }

    private static int refusedCall(RollsAgree x, int i) {
        switch (i) {
            case 0:
                return x.person(-1, 0, 0);
            case 1:
                return x.roll(0, 1);
            case 2:
                return x.terms(3, 0);
            case 3:
                return x.row();
            case 4:
                return x.law();
            case 5:
                return x.orders();
            case 6:
                return x.force(0);
            case 7:
                return x.talk(0, 1, 0);
            case 8:
                return x.develop(0);
            case 9:
                return x.bury(0);
            case 10:
                return x.undo();
            case 11:
                return x.told(0, 1, 0);
            case 12:
                return x.years(0, 1);
            case 13:
                return x.image(2);
            default:
                return x.back(0);
        }
    }
}
