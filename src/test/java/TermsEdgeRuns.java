/** Each sentence of the terms I to IV that names an edge, on small worlds whose answers were worked out by hand. */
public final class TermsEdgeRuns extends Edges {
    public static void main(String[] args) {
        use();
        people();
        peoplesNumbers();
        rolls();
        rollsThatAgree();
        toldTalks();
        terms();
        refusals();
        refusalsInOrder();
        refusalsChangeNothing();
        tape();
        tokens();
        clauses();
        parts();
        brackets();
        faults();
        lawsForm();
        ordersForm();
        sumsForm();
        farSums();
        dividedSums();
        brokenTests();
        tests();
        laws();
        holdingClauses();
        sways();
        takes();
        lawsWords();
        bars();
        times();
        numberedWords();
        ordersRun();
        ordersWords();
        ordersThatCannotBe();
        talks();
        deeds();
        onPaper();
        soonest();
        endsAndHouse();
        givings();
        were();
        ask();
        chatter();
        chance();
        years();
        yearsTalks();
        rows();
        imagesKeep();
        imagesDoNotKeep();
        back();
        closeEdges("use", "terms I", "terms II", "terms III", "terms IV");
    }

    private static void use() {
        edge("use", "An object is used for at most 512 calls after it has been made");
        RollsAgree x = new RollsAgree();
        x.person(1, 1, 1);
        for (int i = 1; i <= 510; i++) {
            x.pass();
        }
        due("the 512th call", x.pass(), 511);
        RollsAgree y = new RollsAgree();
        y.image(0);
        for (int i = 0; i < 100; i++) {
            due("law " + i, law(y, i % 2 == 0 ? "bars" : "takes 1"), 0);
            y.back(0);
        }
        due("people", y.count(0), 0);
    }

    private static void people() {
        edge("terms I", "PEOPLE 0 .. 5 (6 at most)");
        RollsAgree x = new RollsAgree();
        for (int i = 0; i < 6; i++) {
            due("person " + i, x.person(i, 10 * i, i), i);
        }
        due("the 7th", x.person(0, 0, 0), -5);
        due("people", x.count(0), 6);
        due("the last's firm", x.of(5, 0), 5);
        due("the last's age", x.of(5, 1), 50);
        due("the first's age", x.of(0, 1), 0);
        due("no 6", x.of(6, 0), NONE);
        due("the last talks", x.talk(0, 5, 3), 1);
        due("talk with 6", x.talk(0, 6, 3), -2);

        edge("terms I", "living (at first) or DEAD");
        RollsAgree y = folk(1, 0);
        put(y, "\u0001\u0001\u0001");
        y.row();
        due("by person()", y.of(0, 2), 1);
        due("by row()", y.of(1, 2), 1);
        due("living", y.count(1), 2);
        y.bury(0);
        y.person(1, 1, 1);
        due("dead", y.of(0, 2), 0);
        due("behind a dead one", y.of(2, 2), 1);
    }

    private static void peoplesNumbers() {
        edge("terms I", "FIRM 0 .. 9");
        RollsAgree x = new RollsAgree();
        for (int firm : outside(10)) {
            due("firm " + firm, x.person(firm, 1, 1), -1);
        }
        due("nobody", x.count(0), 0);
        due("firm 0", x.person(0, 1, 1), 0);
        due("firm 9", x.person(9, 1, 1), 1);
        due("0", x.of(0, 0), 0);
        due("9", x.of(1, 0), 9);

        edge("terms I", "AGE 0 .. 99");
        RollsAgree y = new RollsAgree();
        for (int age : outside(100)) {
            due("age " + age, y.person(1, age, 1), -1);
        }
        due("nobody", y.count(0), 0);
        due("age 0", y.person(1, 0, 1), 0);
        due("age 99", y.person(1, 99, 1), 1);
        due("0", y.of(0, 1), 0);
        due("99", y.of(1, 1), 99);

        edge("terms I", "of each DAY 0 .. 3 a MARK 0 .. 3");
        RollsAgree z = new RollsAgree();
        z.person(1, 1, 0);
        z.person(1, 1, 255);
        for (int day = 0; day < 4; day++) {
            due("the lowest of day " + day, z.of(0, 3 + day), 0);
            due("the highest of day " + day, z.of(1, 3 + day), 3);
        }
        due("day 4", z.of(1, 7), NONE);
        for (int day : outside(4)) {
            due("roll of day " + day, z.roll(day, 1), -1);
            due("talk of day " + day, z.talk(0, 1, day), -1);
            due("told of day " + day, z.told(0, 1, day), -1);
            due("asks of day " + day, z.asks(0, 1, day, 0), NONE);
        }
    }

    private static void rolls() {
        edge("terms I", "ROLLS 0 .. 7 (8 at most)");
        RollsAgree x = folk(1, 0, 1);
        for (int i = 0; i < 8; i++) {
            due("roll " + i, x.roll(i % 4, 1 + i % 3), i);
        }
        due("the 9th", x.roll(0, 1), -5);
        due("rolls", x.count(2), 8);
        due("the last's day", x.at(7, 0), 3);
        due("who is on the last", x.at(7, 1), 2);
        due("no 8", x.at(8, 0), NONE);
        due("develop 8", x.develop(8), -2);
        due("develop 7", x.develop(7), 0);
        due("7 is done", x.at(7, 2), 1);

        edge("terms I", "ON it PEOPLE (as bits, one or more)");
        RollsAgree y = folk(1, 0, 0, 0, 0, 0, 0);
        due("on nobody", y.roll(0, 0), -1);
        due("on the first", y.roll(0, 1), 0);
        due("on the last", y.roll(0, 32), 1);
        due("on all six", y.roll(0, 63), 2);
        due("bits of the last", y.at(1, 1), 32);
        due("bits of all", y.at(2, 1), 63);

        edge("terms I", "DONE or not (at first)");
        RollsAgree z = folk(1, 0);
        z.roll(0, 1);
        z.develop(0);
        z.roll(0, 1);
        due("done", z.at(0, 2), 1);
        due("a new one", z.at(1, 2), 0);
        due("how many", z.count(3), 1);
    }

    private static void rollsThatAgree() {
        edge("terms I", "A ROLL AGREES, if all living ones ON it have one MARK of its DAY (without such, too).");
        RollsAgree x = new RollsAgree();
        x.person(1, 1, marks(0, 2, 0, 3));
        x.person(1, 1, marks(1, 2, 0, 3));
        x.person(1, 1, marks(1, 2, 1, 3));
        x.roll(0, 7);
        x.roll(1, 7);
        x.roll(2, 7);
        x.roll(2, 3);
        x.roll(0, 1);
        due("the first has another one", x.at(0, 3), 0);
        due("all have one", x.at(1, 3), 1);
        due("the last has another one", x.at(2, 3), 0);
        due("who is not on it does not matter", x.at(3, 3), 1);
        due("one alone", x.at(4, 3), 1);
        x.bury(0);
        due("the dead don't matter", x.at(0, 3), 1);
        due("one who lives does", x.at(2, 3), 0);
        due("on it just a dead one", x.at(4, 3), 1);
        x.bury(1);
        x.bury(2);
        due("nobody lives", x.at(0, 3), 1);
        due("nobody lives, marks apart", x.at(2, 3), 1);
    }

    private static void toldTalks() {
        edge("terms I", "TOLD, 8 at most");
        RollsAgree x = folk(1, 0, 0);
        for (int i = 1; i <= 8; i++) {
            due("told " + i, x.told(i % 2, 1 - i % 2, i % 4), i);
        }
        due("the 9th", x.told(0, 1, 0), -5);
        due("how many", x.count(4), 8);
        x.forget();
        due("room again", x.told(0, 1, 0), 1);

        edge("terms I", "TALKS of two PEOPLE of a DAY, in order");
        RollsAgree y = folk(1, 2, 2, 2);
        y.told(0, 1, 0);
        y.told(1, 2, 0);
        due("first 0 with 1: 0 any, 1 had 2 then", y.were(0, NONE, 0), 4);
        y.forget();
        y.told(1, 2, 0);
        y.told(0, 1, 0);
        due("first 1 with 2: 0 and 1 any", y.were(0, NONE, 0), 16);
        due("of another day", y.were(1, NONE, 0), 1);
    }

    private static void terms() {
        edge("terms I", "0 WEEK 0 .. 999 (0 at first)");
        boundsOfTerm(0, 999, 0);
        edge("terms I", "1 RATE 0 .. 10 (2)");
        boundsOfTerm(1, 10, 2);
        edge("terms I", "2 MOOD 0 .. 9 (0)");
        boundsOfTerm(2, 9, 0);
    }

    private static void boundsOfTerm(int what, int most, int first) {
        RollsAgree x = new RollsAgree();
        due("at first", x.count(14 + what), first);
        for (int value : outside(most + 1)) {
            due("value " + value, x.terms(what, value), -1);
        }
        due("it stays", x.count(14 + what), first);
        due("the most", x.terms(what, most), first);
        due("it is the most", x.count(14 + what), most);
        due("0", x.terms(what, 0), most);
        due("it is 0", x.count(14 + what), 0);
        for (int other = 0; other < 3; other++) {
            if (other != what) {
                due("another term", x.count(14 + other), other == 1 ? 2 : 0);
            }
        }
    }

    private static void refusals() {
        edge("terms I", "REFUSED by: -1 a number that can't be;");
        RollsAgree x = folk(1, 0, 1);
        int[] badNumbers = {x.person(10, 0, 0), x.roll(4, 1), x.terms(0, 1000), x.talk(0, 1, 4), x.talk(0, 0, 0), x.told(0, 1, 4),
            x.told(1, 1, 0), x.years(1000001, 1), x.years(0, 101), x.image(2), x.back(2)};
        for (int i = 0; i < badNumbers.length; i++) {
            due("bad number " + i, badNumbers[i], -1);
        }
        due("how many", x.count(8), badNumbers.length);

        edge("terms I", "-2 there is no such PERSON, ROLL, LAW, IMAGE;");
        RollsAgree y = folk(1, 0, 1);
        int[] noSuch = {y.talk(0, 2, 0), y.talk(2, 0, 0), y.bury(2), y.told(0, 2, 0), y.develop(0), y.force(0), y.back(0), y.back(1)};
        for (int i = 0; i < noSuch.length; i++) {
            due("no such " + i, noSuch[i], -2);
        }
        due("how many", y.count(9), noSuch.length);

        edge("terms I", "-3 it can't be by what stands;");
        RollsAgree z = folk(1, 0, 1, 0);
        z.roll(0, 3);
        z.terms(0, 999);
        due("no talk of a dead one", z.bury(2) * 10 + z.talk(0, 2, 0), 17);
        int[] cannot = {z.bury(2), z.develop(0), z.pass(), orders(z, "bury 2"), new RollsAgree().undo(), new RollsAgree().years(0, 1)};
        for (int i = 0; i < cannot.length; i++) {
            due("can't be " + i, cannot[i], -3);
        }
        due("how many of this one", z.count(10), 5);

        edge("terms I", "-5 no room;");
        RollsAgree v = folk(1, 0, 0, 0, 0, 0, 0);
        for (int i = 0; i < 8; i++) {
            v.roll(0, 1);
            v.told(0, 1, 0);
            law(v, "bars");
        }
        int[] noRoom = {v.person(0, 0, 0), v.roll(0, 1), v.told(0, 1, 0), law(v, "bars")};
        for (int i = 0; i < noRoom.length; i++) {
            due("no room " + i, noRoom[i], -5);
        }
        due("how many, with two laws ahead", v.count(11), noRoom.length + 2);

        edge("terms I", "-6 a TEXT, a ROW that can't be.");
        RollsAgree w = new RollsAgree();
        int[] badTexts = {w.row(), law(w, "takes"), w.law(), orders(w, "talk"), w.orders()};
        for (int i = 0; i < badTexts.length; i++) {
            due("bad text " + i, badTexts[i], -6);
        }
        due("how many", w.count(12), badTexts.length);
    }

    private static void refusalsInOrder() {
        edge("terms I", "The first of these in that order.");
        RollsAgree x = folk(1, 0, 0, 0, 0, 0, 0);
        for (int i = 0; i < 8; i++) {
            x.roll(0, 63);
            x.told(0, 1, 0);
        }
        x.bury(5);
        due("-1 ahead of -5: person", x.person(10, 0, 0), -1);
        due("-1 ahead of -5: roll", x.roll(0, 64), -1);
        due("-1 ahead of -2: talk of a day", x.talk(0, 6, 4), -1);
        due("-1 ahead of -2: talk with itself", x.talk(6, 6, 0), -1);
        due("-1 ahead of -3: talk of a day", x.talk(0, 5, 4), -1);
        due("-1 ahead of -3: a dead one with itself", x.talk(5, 5, 0), -1);
        due("-2 ahead of -3: talk, the first is dead", x.talk(5, 6, 0), -2);
        due("-2 ahead of -3: talk, the second is dead", x.talk(6, 5, 0), -2);
        due("-1 ahead of -2: told of a day", x.told(0, 6, 4), -1);
        due("-1 ahead of -2: told with itself", x.told(6, 6, 0), -1);
        due("-1 ahead of -5: told of a day", x.told(0, 1, 4), -1);
        due("-1 ahead of -5: told with itself", x.told(0, 0, 0), -1);
        due("-2 ahead of -5: told", x.told(0, 6, 0), -2);
        RollsAgree y = new RollsAgree();
        due("-1 ahead of -3: years, seed", y.years(-1, 1), -1);
        due("-1 ahead of -3: years, weeks", y.years(0, 0), -1);
        due("-1 ahead of -2: back", y.back(2), -1);
        for (int i = 0; i < 6; i++) {
            law(y, "bars");
        }
        due("-5 ahead of -6: law", law(y, "?"), -5);
        due("-5 ahead of -6: no law", law(y, ""), -5);
    }

    private static void refusalsChangeNothing() {
        edge("terms I", "REFUSED by: -1 a number that can't be; -2 there is no such PERSON, ROLL, LAW, IMAGE; -3 it can't be by what stands; -5 no room; -6 a TEXT, a ROW that can't be.");
        refusedBy(-1, x -> x.person(10, 0, 0), x -> x.person(0, 100, 0), x -> x.person(0, 0, 256), x -> x.roll(4, 1), x -> x.roll(0, 0),
                x -> x.roll(0, 64), x -> x.terms(0, 1000), x -> x.terms(1, 11), x -> x.terms(2, -1), x -> x.terms(3, 0),
                x -> x.talk(0, 1, 4), x -> x.talk(1, 1, 0), x -> x.told(0, 1, -1), x -> x.told(1, 1, 0), x -> x.years(-1, 1),
                x -> x.years(0, 101), x -> x.image(2), x -> x.back(-1));
        refusedBy(-2, x -> x.talk(0, 6, 0), x -> x.talk(-1, 0, 0), x -> x.told(6, 0, 0), x -> x.develop(8), x -> x.develop(-1),
                x -> x.bury(6), x -> x.bury(-1), x -> x.force(6), x -> x.force(-2), x -> x.back(0), x -> x.back(1));
        refusedBy(-3, x -> x.talk(0, 5, 0), x -> x.talk(3, 0, 0), x -> x.talk(0, 3, 0), x -> x.develop(0), x -> x.develop(1),
                x -> x.bury(5), x -> x.pass());
        refusedBy(-5, x -> x.person(1, 1, 1), x -> x.roll(0, 1), x -> x.told(0, 1, 0));
    }

    private interface Call {
        int of(RollsAgree x);
    }

    private static void refusedBy(int reason, Call... calls) {
        for (int i = 0; i < calls.length; i++) {
            RollsAgree x = fullWorld();
            int[] before = allOf(x);
            due("call " + i, calls[i].of(x), reason);
            due("status of call " + i, x.status(), reason);
            int[] after = allOf(x);
            for (int k = 0; k < before.length; k++) {
                due("all behind call " + i + ", number " + k, after[k], before[k]);
            }
        }
    }

    /** No room for anybody or anything, and something of each kind that can be lost. */
    private static RollsAgree fullWorld() {
        RollsAgree x = folk(4, 0, 1, 2, 3, 2, 1);
        for (int i = 0; i < 8; i++) {
            x.roll(i % 4, 3);
            x.told(0, 1, 1);
        }
        for (int i = 0; i < 6; i++) {
            law(x, i == 5 ? "bars if person=3" : "takes " + i);
        }
        x.terms(0, 999);
        x.force(5);
        put(x, "\u00ff");
        x.row();
        x.years(0, 1);
        x.develop(1);
        x.bury(5);
        orders(x, "talk 1 with 2 of 0;bury 9");
        law(x, "?");
        x.feed(1, 2, 3, 4, 5);
        return x;
    }

    private static int[] allOf(RollsAgree x) {
        int[] all = new int[125];
        int n = 0;
        for (int what = 0; what <= 16; what++) {
            all[n++] = what >= 8 && what <= 12 ? 0 : x.count(what);
        }
        for (int i = 0; i < 42; i++) {
            all[n++] = x.of(i / 7, i % 7);
        }
        for (int i = 0; i < 32; i++) {
            all[n++] = x.at(i / 4, i % 4);
        }
        for (int i = 0; i < 24; i++) {
            all[n++] = x.drawn(i / 4, i % 4);
        }
        for (int day = 0; day < 4; day++) {
            all[n++] = x.were(day, NONE, 0);
        }
        for (int what = 0; what < 3; what++) {
            all[n++] = x.asks(3, 0, 0, what);
        }
        all[n++] = x.grain();
        all[n++] = x.fault();
        all[n++] = x.stopped();
        return all;
    }

    private static void tape() {
        edge("terms II", "TEXTS are on a TAPE of at most 400 bytes.");
        String blanks = " ".repeat(396);
        lawful(blanks + "bars");
        lawful("bars" + blanks);
        faulty(false, blanks + "   ?", 399);
        faulty(false, blanks + "    ", 400);
        faulty(false, "bars" + " ".repeat(395) + ";", 400);
        faulty(true, blanks + "talk", 400);
        RollsAgree x = new RollsAgree();
        due("orders of 400", orders(x, blanks + "pass"), 1);
        for (int i = 1; i <= 20; i++) {
            due("feed " + i, x.feed(0x70617373, 0, 0, 0, 0), 20 * i);
        }
        due("one more", x.feed(0, 0, 0, 0, 0), NONE);
        due("tape", x.count(7), 400);
        due("a fault within", x.orders(), -6);
        due("it is empty", x.count(7), 0);
        // Nearly 400 tokens.
        String full = "takes" + "[[[[[[[[1]]]]]]]]+".repeat(21) + "[[[[[[[1]]]]]]]";
        lawful(full + "+1");
        lawful(full + " ");
        faulty(false, full + "+[", 400);
        faulty(false, full + "+]", 399);
        faulty(false, full + "1", 398);
        // A long text leaves nothing behind that the next ones meet.
        RollsAgree y = new RollsAgree();
        String longest = "pass if " + "week+".repeat(48) + "done>1000";
        for (int i = 0; i < 10; i++) {
            due("long " + i, orders(y, i % 2 == 0 ? longest : longest.substring(0, 200)), i % 2 == 0 ? 0 : -6);
            due("short " + i, orders(y, "pass if week=" + i + ";pass if week=" + i), 1);
        }
    }

    private static void tokens() {
        edge("terms II", "TOKENS: longest rows of letters a .. z, of digits, single other bytes, any blanks (32) between.");
        faulty(false, "barsif 1=1", 0);
        faulty(false, "abars", 0);
        faulty(false, "barsz", 0);
        faulty(false, "bar s", 0);
        faulty(false, "bars i f 1=1", 5);
        faulty(false, "takes 1 0", 8);
        for (char other : new char[] {0, 9, 10, 13, 31, 33, ':', '@', 'A', 'S', 'Z', '[', '`', '{', 127, 128, 160, 224, 225, 255}) {
            faulty(false, "bars" + other, 4);
            faulty(false, other + "bars", 0);
            faulty(false, "bars" + other + "if 1=1", 4);
            faulty(false, "ba" + other + "rs", 0);
            faulty(false, "takes 1" + other + "0", 7);
        }
        faulty(false, "takes 6/", 8);
        takes("6/2", 3);
        faulty(false, "bars if 1==1", 10);
        faulty(false, "bars if 1<>1", 10);
        faulty(false, "bars;;", 5);
        lawful("bars if1=1and2>1or 0<9");
        lawful("takes1if1=1");
        lawful("   bars   if   1   =   1   ");
        lawful("takes[1]");
        due("09 is a number of two digits", under(folk(1, 0, 0), "takes 09-7").asks(0, 1, 0, 0), 2);
        due("90, too", under(folk(1, 0, 0), "takes 90-87").asks(0, 1, 0, 0), 3);
    }

    private static void clauses() {
        edge("terms II", "12 at most (FAULT at the 13th's first TOKEN)");
        String twelve = "bars;".repeat(11) + "bars";
        lawful(twelve);
        faulty(false, twelve + ";bars", 60);
        faulty(false, twelve + ";   bars", 63);
        faulty(false, twelve + ";", 60);
        faulty(false, twelve + "; ", 61);
        faulty(false, twelve + ";?", 60);
        faulty(false, twelve + " bars", 60);
        RollsAgree x = new RollsAgree();
        due("twelve orders", orders(x, "pass;".repeat(11) + "pass"), 12);
        due("all were run", x.count(14), 12);
        faulty(true, "pass;".repeat(12) + "pass", 60);
        faulty(true, "pass;".repeat(12), 60);
        due("the 12th is asked", under(folk(1, 0, 0), "takes 0;".repeat(11) + "takes 3").asks(0, 1, 0, 0), 3);
        due("the 12th may have an if", under(folk(1, 0, 0), twelve + " if 1=2").asks(0, 1, 0, 2), 1);
    }

    private static void parts() {
        edge("terms II", "NUMBER (to 1,000)");
        lawful("takes 0");
        lawful("takes 1000");
        lawful("takes 0000000000000001000");
        due("1000 is 1000", under(folk(1, 0, 0), "takes 1000-997").asks(0, 1, 0, 0), 3);
        faulty(false, "takes 1001", 6);
        faulty(false, "takes 2000000000", 6);
        // These wrap around to 1 in 32 and in 64 bits.
        faulty(false, "takes 4294967297", 6);
        faulty(false, "takes 18446744073709551617", 6);
        faulty(false, "takes " + "9".repeat(394), 6);
        faulty(true, "bury 1001", 5);
        faulty(true, "bury 0 if 1001=1", 10);

        edge("terms II", "50 PARTS that are NUMBERS and words (FAULT at the 51st)");
        String fifty = "takes 0" + "+0".repeat(49);
        lawful(fifty);
        faulty(false, fifty + "+0", 106);
        faulty(false, fifty + "+mark", 106);
        faulty(false, fifty + "+[0]", 107);
        faulty(false, fifty + "+", 106);
        faulty(false, fifty + "+)", 106);
        lawful("takes mark" + "+its".repeat(49));
        faulty(false, "takes mark" + "+its".repeat(49) + "+its", 207);
        lawful("takes [" + "0+".repeat(49) + "0]");
        // The parts of all clauses, of sums and tests, count together; brackets and signs don't count.
        String halves = "takes 0" + "+0".repeat(24) + ";sways 0" + "+0".repeat(22) + " if [0]";
        lawful(halves + "=0");
        faulty(false, halves + "=0 and 0=0", halves.length() + 7);
        lawful(fifty + ";bars");
        faulty(false, fifty + ";takes 0", 112);
        due("the 50th counts", under(folk(1, 0, 0), "takes 0" + "+0".repeat(48) + "+3").asks(0, 1, 0, 0), 3);
    }

    private static void brackets() {
        edge("terms II", "8 brackets of both kinds within one another (FAULT at the 9th) at most");
        String open = "[".repeat(8);
        String shut = "]".repeat(8);
        lawful("takes " + open + "1" + shut);
        faulty(false, "takes [" + open + "1" + shut + "]", 14);
        faulty(false, "takes " + open + "1+[1]" + shut, 16);
        faulty(false, "takes " + open + "[", 14);
        lawful("bars if " + "(".repeat(8) + "1=1" + ")".repeat(8));
        faulty(false, "bars if " + "(".repeat(9) + "1=1" + ")".repeat(9), 16);
        lawful("bars if " + "(".repeat(7) + "[1]=1" + ")".repeat(7));
        faulty(false, "bars if " + "(".repeat(7) + "[[1]]=1" + ")".repeat(7), 16);
        faulty(false, "bars if " + "(".repeat(7) + "[1]=[[1]]" + ")".repeat(7), 20);
        faulty(false, "bars if " + "(".repeat(8) + "1=[1]" + ")".repeat(8), 18);
        // Behind one another there may be more, and "not" is no bracket.
        lawful("takes " + "[1]+".repeat(20) + "[1]");
        lawful("bars if " + "(1=1) and ".repeat(20) + "(1=1)");
        lawful("takes " + open + "1" + shut + "+" + open + "1" + shut);
        lawful("bars if " + "not ".repeat(9) + "1=1");
        lawful("bars if " + "not (".repeat(8) + "1=1" + ")".repeat(8));
        lawful("takes " + open + "1" + shut + ";takes " + open + "1" + shut);
        due("orders, too", orders(new RollsAgree(), "bury " + open + "1" + shut), -3);
        faulty(true, "bury " + open + "[1]" + shut, 13);
        due("what is within counts", under(folk(1, 0, 0), "takes " + open + "3" + shut).asks(0, 1, 0, 0), 3);
    }

    private static void faults() {
        edge("terms II", "FAULT: the first TOKEN that can't go on there (the end's: the TEXT's length).");
        faulty(false, "", 0);
        faulty(false, " ", 1);
        faulty(false, "?", 0);
        faulty(false, "  ?", 2);
        faulty(false, "takes", 5);
        faulty(false, "takes  ", 7);
        faulty(false, "takes 1+", 8);
        faulty(false, "takes 1 +  ?", 11);
        faulty(false, "takes [1 ", 9);
        faulty(false, "takes 1 if", 10);
        faulty(false, "takes 1 if mark", 15);
        faulty(false, "takes 1 if mark <", 17);
        faulty(false, "takes 1 if (mark<1", 18);
        faulty(false, "takes 1 if mark<1 or", 20);
        faulty(false, "takes 1 if mark<1 or ?", 21);
        faulty(false, "takes 1 if mark<1 and", 21);
        faulty(false, "takes 1 if mark<1 and ?", 22);
        faulty(false, "takes 1 if not", 14);
        faulty(false, "takes 1 if (mark<1 and ?)", 23);
        faulty(false, "bars;takes ?;sways ?", 11);
        faulty(true, "", 0);
        faulty(true, "talk", 4);
        faulty(true, "talk 0", 6);
        faulty(true, "talk 0 with", 11);
        faulty(true, "talk 0 with 1 of", 16);
        faulty(true, "talk 0 of 1 with 2", 7);
        faulty(true, "pass times", 10);
        faulty(true, "pass if", 7);
        faulty(true, "pass;pass ?;bars", 10);
        faulty(true, "develop agrees", 14);
        faulty(true, "develop mark 0 0", 15);
    }

    private static void lawsForm() {
        edge("terms II", "CLAUSE: ((\"takes\" | \"sways\") SUM | \"bars\") [\"if\" TEST].");
        lawful("takes 1");
        lawful("sways 1 if 1=1");
        lawful("bars if 1=1");
        for (String kind : new String[] {"takes", "sways"}) {
            faulty(false, kind, 5);
            faulty(false, kind + " if 1=1", 6);
            faulty(false, kind + ";bars", 5);
            faulty(false, kind + " 1 1", 8);
            faulty(false, kind + " 1=1", 7);
            faulty(false, kind + " (1)", 6);
            faulty(false, kind + " -1", 6);
            faulty(false, kind + " 1 if", 10);
            faulty(false, kind + " 1 if 1=1 if 1=1", 15);
            faulty(false, kind + " 1 times 2", 8);
        }
        faulty(false, "bars 1", 5);
        faulty(false, "bars if", 7);
        faulty(false, "bars times 2", 5);
        for (String kind : new String[] {"talk", "develop", "bury", "pass", "if", "mark", "1", "times", "and"}) {
            faulty(false, kind + " 1", 0);
        }

        edge("terms II", "Words: \"person\" | \"other\" | \"mark\" | \"its\" | \"firm\" | \"age\" | \"day\" | \"week\" | \"mood\".");
        lawful("takes person+other+mark+its+firm+age+day+week+mood");
        for (String word : new String[] {"done", "latest", "living", "agrees", "people", "rate", "takes", "bars", "if", "or", "not", "times", "with", "of", "pass"}) {
            faulty(false, "takes " + word, 6);
            faulty(false, "bars if mark=" + word, 13);
        }
        faulty(false, "takes mark 0", 11);
    }

    private static void ordersForm() {
        edge("terms II", "CLAUSE: (\"talk\" SUM \"with\" SUM \"of\" SUM | \"develop\" SUM | \"bury\" SUM | \"pass\") [\"times\" TIMES] [\"if\" TEST].");
        faulty(true, "talk with 1 of 2", 5);
        faulty(true, "talk 0 with of 2", 12);
        faulty(true, "talk 0 with 1 of", 16);
        faulty(true, "talk 0 with 1 of if 1=1", 17);
        faulty(true, "talk 0 of 2 with 1", 7);
        faulty(true, "talk 0 with 1 of 2 of 3", 19);
        faulty(true, "talk 0 1 2", 7);
        faulty(true, "develop", 7);
        faulty(true, "develop 0 0", 10);
        faulty(true, "develop times 2", 8);
        faulty(true, "bury", 4);
        faulty(true, "bury if 1=1", 5);
        faulty(true, "bury 0 with 1", 7);
        faulty(true, "pass 1", 5);
        faulty(true, "pass if 1=1 times 2", 12);
        faulty(true, "pass times 2 times 2", 13);
        faulty(true, "pass if 1=1 if 1=1", 12);
        for (String kind : new String[] {"takes", "sways", "bars", "if", "week", "1", "times", "undo"}) {
            faulty(true, kind + " 1", 0);
        }
        due("all parts of one", orders(folk(1, 0, 1), "talk 0 with 1 of 0 times 2 if week=0"), 2);

        edge("terms II", "Words: \"week\" | \"done\" | \"latest\" | \"living\" | \"agrees\" R | \"mark\" N");
        due("all", orders(new RollsAgree(), "pass if week+done+latest+living+agrees 0+mark 0=0-3"), 1);
        for (String word : new String[] {"person", "other", "its", "firm", "age", "day", "mood", "rate", "talk", "pass", "if", "or", "not", "times", "with"}) {
            faulty(true, "bury " + word, 5);
            faulty(true, "pass if week=" + word, 13);
        }
    }

    private static void sumsForm() {
        edge("terms II", "SUM: TERM {(\"+\" | \"-\") TERM}. TERM: PART {(\"*\" | \"/\" | \"%\") PART}.");
        takes("9-3-3", 3);
        takes("9-[3-3]-6", 3);
        takes("7-5+1", 3);
        takes("1+1*2", 3);
        takes("[1+1]*2-1", 3);
        takes("12/2/2", 3);
        takes("12/[2/2]-9", 3);
        takes("3*7%4-0", 1);
        takes("7%4*1", 3);
        takes("2+8/4*2-4%3-2", 3);
        faulty(false, "takes 1+-1", 8);
        faulty(false, "takes 1**1", 8);
        faulty(false, "takes +1", 6);
        faulty(false, "takes 1%", 8);
        faulty(false, "takes []", 7);
        faulty(false, "takes [1", 8);
        faulty(false, "takes [1)", 8);
        faulty(false, "takes 1]", 7);
        faulty(false, "takes [mark=1]", 11);
    }

    /** What 0 takes by a sum; 1 if that is broken. */
    private static void takes(String sum, int want) {
        due("takes " + sum, under(folk(1, 0, 0), "takes 1;takes " + sum).asks(0, 1, 0, 0), want);
    }

    private static void isSo(String test, int want) {
        due("if " + test, under(folk(1, 0, 0), "bars if " + test).asks(0, 1, 0, 2), want);
    }

    private static void farSums() {
        edge("terms II", "Beyond 1,000,000,000 either way");
        String far = "1000*1000*1000";
        takes(far, 3);
        takes("0-" + far, 0);
        takes(far + "+1", 1);
        takes("0-" + far + "-1", 1);
        takes(far + "-" + far + "+3", 3);
        takes("2+" + far + "-" + far, 1);
        takes("1+" + far + "-" + far, 1);
        takes("0-" + far + "+" + far + "+2", 2);
        takes(far + "-0", 3);
        takes("1000*1000*[1000+1]", 1);
        takes("0-1000*1000*[1000+1]", 1);
        // These come back near 0 when they wrap around in 32 and in 64 bits.
        takes("1000*1000*1000*1000", 1);
        takes("256*256*256*256", 1);
        takes("[0-256]*256*256*256", 1);
        takes("32*[1000*1000*1000]*[1000*1000*1000]", 1);
        takes("0*[" + far + "+1]", 1);
        isSo(far + "=" + far, 1);
        isSo(far + "+1>0", 0);
        isSo("0<" + far + "+1", 0);
        isSo("0-" + far + "<0", 1);
        isSo("0-" + far + "-1<0", 0);
        RollsAgree x = folk(1, 0, 0);
        due("orders: not beyond, but no such", orders(x, "bury " + far), -3);
        due("orders: beyond", orders(x, "bury " + far + "+1-" + far + "-1"), -3);
        due("orders: just within", orders(x, "bury " + far + "-" + far), 1);
    }

    private static void dividedSums() {
        edge("terms II", "or divided by 0 (/ cut towards 0, % what is left then), a SUM, a TEST is BROKEN");
        for (String sum : new String[] {"3/0", "3%0", "0/0", "0%0", "3/[1-1]", "3%[1-1]", "3/mark", "3%its", "[0-3]/0", "0*[3/0]", "[3/0]-[3/0]"}) {
            takes(sum, 1);
            isSo(sum + "=" + sum, 0);
            isSo("not " + sum + "=1", 0);
            isSo("1<2 and " + sum + "<1", 0);
            due("order " + sum, orders(folk(1, 0, 0), "bury " + sum.replace("mark", "0").replace("its", "0")), -3);
        }
        takes("7/2", 3);
        takes("0-7/2+6", 3);
        takes("[0-7]/2+6", 3);
        takes("7/[0-2]+6", 3);
        takes("[0-7]/[0-2]", 3);
        takes("1/2+2", 2);
        takes("[0-1]/2+2", 2);
        takes("7%4", 3);
        takes("[0-7]%4+5", 2);
        takes("7%[0-4]", 3);
        takes("[0-7]%[0-4]+5", 2);
        takes("0/5+2", 2);
        takes("0%5+2", 2);
        takes("6%3+2", 2);
        takes("6%1+2", 2);
        takes("[0-1000*1000*1000]/[0-1]", 3);
        takes("[0-1000*1000*1000]%[0-1]+2", 2);
    }

    private static void brokenTests() {
        edge("terms II", "(\"or\", \"and\" ask what stands behind only if it can still matter)");
        isSo("1=1 or 1/0=1", 1);
        isSo("1=2 or 1/0=1", 0);
        isSo("1/0=1 or 1=1", 0);
        isSo("1=1 or 1=1 or 1/0=1", 1);
        isSo("1=2 or 1=1 or 1/0=1", 1);
        isSo("1=2 or 1/0=1 or 1=1", 0);
        isSo("not (1=2 and 1/0=1)", 1);
        isSo("not (1=1 and 1/0=1)", 0);
        isSo("not (1/0=1 and 1=2)", 0);
        isSo("not (1=1 and 1=2 and 1/0=1)", 1);
        isSo("1=2 and 1/0=1 or 1=1", 1);
        isSo("1=1 and 1/0=1 or 1=1", 0);
        isSo("1=1 or 1=1 and 1/0=1", 1);
        isSo("1=2 or 1=2 and 1/0=1", 0);
        isSo("not (1=2 or 1=2 and 1/0=1)", 1);
        isSo("(1=1 or 1/0=1) and 1=1", 1);
        isSo("(1=2 and 1/0=1 or 1=1) and (1=1 or 1/0=1)", 1);
        isSo("1=2 and (1/0=1 or 1=1) or 1=1", 1);
        isSo("1=1 and (1/0=1 or 1=1) or 1=1", 0);
        isSo("1=2 and 1000*1000*1000+1=0 or 1=1", 1);
        due("orders, too", orders(new RollsAgree(), "pass if week=0 or 1/0=1;pass if week=0 and 1/0=1;pass if 1/week=1"), 2);
    }

    private static void tests() {
        edge("terms II", "PLAIN: \"not\" PLAIN | \"(\" TEST \")\" | SUM (\"&lt;\" | \"&gt;\" | \"=\") SUM.");
        isSo("1<2", 1);
        isSo("2<2", 0);
        isSo("3<2", 0);
        isSo("3>2", 1);
        isSo("2>2", 0);
        isSo("1>2", 0);
        isSo("2=2", 1);
        isSo("1=2", 0);
        isSo("0-1<0", 1);
        isSo("0>0-1", 1);
        isSo("not 1<2", 0);
        isSo("not 2>1", 0);
        isSo("not 1=1", 0);
        isSo("not 2<1", 1);
        isSo("not 1>2", 1);
        isSo("not 1=2", 1);
        isSo("not not 1<2", 1);
        isSo("not 1=1 or 1=1", 1);
        isSo("not (1=1 or 1=1)", 0);
        isSo("not 1=2 and 1=2", 0);
        isSo("1=1 or 1=1 and 1=2", 1);
        isSo("(1=1 or 1=1) and 1=2", 0);
        isSo("not ".repeat(96) + "1=1", 1);
        isSo("not ".repeat(97) + "1=1", 0);
        isSo("not(".repeat(8) + "1=1" + ")".repeat(8), 1);
        isSo("not(".repeat(7) + "1=1" + ")".repeat(7), 0);
        faulty(false, "bars if 1", 9);
        faulty(false, "bars if (1)", 10);
        faulty(false, "bars if (1)=1", 10);
        faulty(false, "bars if [1=1]", 10);
        faulty(false, "bars if ()", 9);
        faulty(false, "bars if 1=1=1", 11);
        faulty(false, "bars if not", 11);
        faulty(false, "bars if not and 1=1", 12);
    }

    private static void laws() {
        edge("terms II", "LAWS, 6 at most");
        RollsAgree x = folk(1, 0, 0);
        for (int i = 0; i < 6; i++) {
            due("law " + i, law(x, "takes " + i + "-2"), i);
        }
        due("the 7th", law(x, "takes 1"), -5);
        due("how many", x.count(5), 6);
        due("the last can be in force", x.force(5), NONE);
        due("the last tells", x.asks(0, 1, 0, 0), 3);
        due("no 6", x.force(6), -2);

        edge("terms II", "one is in FORCE (NONE at first: no CLAUSE)");
        RollsAgree y = folk(4, 0, 1);
        law(y, "takes 3;sways 9;bars");
        due("none at first", y.count(13), NONE);
        due("it takes the firmer's", y.asks(0, 1, 0, 0), 1);
        due("it sways as firm", y.asks(0, 1, 0, 1), 4);
        due("it is not barred", y.asks(0, 1, 0, 2), 0);
        y.force(0);
        due("in force", y.asks(0, 1, 0, 0) * 100 + y.asks(0, 1, 0, 1) * 10 + y.asks(0, 1, 0, 2), 391);
        y.force(NONE);
        due("none again", y.asks(0, 1, 0, 0) * 100 + y.asks(0, 1, 0, 1) * 10 + y.asks(0, 1, 0, 2), 140);
    }

    private static void holdingClauses() {
        edge("terms II", "A CLAUSE HOLDS, if its \"if\" (if it has one) is so, and neither that nor its SUM is BROKEN.");
        String[] holding = {"", " if 1=1", " if its=0", " if 1=1 or 1/0=1"};
        String[] not = {" if 1=2", " if 1/0=1", " if 1/0=1 or 1=1", " if not 1/0=1"};
        for (String test : holding) {
            due("takes 3" + test, under(folk(4, 0, 0), "takes 1;takes 3" + test).asks(0, 1, 0, 0), 3);
            due("sways 9" + test, under(folk(4, 0, 0), "sways 1;sways 9" + test).asks(0, 1, 0, 1), 9);
            due("bars" + test, under(folk(4, 0, 0), "bars" + test).asks(0, 1, 0, 2), 1);
            due("takes 3/0" + test, under(folk(4, 0, 0), "takes 1;takes 3/0" + test).asks(0, 1, 0, 0), 1);
            due("sways 3/0" + test, under(folk(4, 0, 0), "sways 1;sways 3/0" + test).asks(0, 1, 0, 1), 1);
        }
        for (String test : not) {
            due("takes 3" + test, under(folk(4, 0, 0), "takes 1;takes 3" + test).asks(0, 1, 0, 0), 1);
            due("sways 9" + test, under(folk(4, 0, 0), "sways 1;sways 9" + test).asks(0, 1, 0, 1), 1);
            due("bars" + test, under(folk(4, 0, 0), "bars" + test).asks(0, 1, 0, 2), 0);
        }
    }

    private static void sways() {
        edge("terms II", "One SWAYS the other as the last \"sways\" that HOLDS tells, 0 .. 9 (else the nearest), FIRM without;");
        int[][] swayed = {{0, 0}, {1, 1}, {8, 8}, {9, 9}, {10, 9}, {1000, 9}};
        for (int[] s : swayed) {
            due("sways " + s[0], under(folk(4, 0, 0), "sways " + s[0]).asks(0, 1, 0, 1), s[1]);
        }
        due("below 0", under(folk(4, 0, 0), "sways 0-1").asks(0, 1, 0, 1), 0);
        due("far below", under(folk(4, 0, 0), "sways 0-1000*1000*1000").asks(0, 1, 0, 1), 0);
        due("far above", under(folk(4, 0, 0), "sways 1000*1000*1000").asks(0, 1, 0, 1), 9);
        due("the last", under(folk(4, 0, 0), "sways 7;sways 2").asks(0, 1, 0, 1), 2);
        due("the last that holds", under(folk(4, 0, 0), "sways 7;sways 2 if 1=2;sways 3/0").asks(0, 1, 0, 1), 7);
        due("none holds", under(folk(4, 0, 0), "sways 2 if 1=2;sways 3/0;takes 1").asks(0, 1, 0, 1), 4);
        due("firm 0", folk(0, 0, 0).asks(0, 1, 0, 1), 0);
        due("firm 9", folk(9, 0, 0).asks(0, 1, 0, 1), 9);
    }

    private static void takes() {
        edge("terms II", "it TAKES a MARK 0 .. 3 as the last \"takes\" that HOLDS tells (else the nearest)");
        takes("0", 0);
        takes("3", 3);
        takes("4", 3);
        takes("1000*1000*1000", 3);
        takes("0-1", 0);
        takes("0-1000*1000*1000", 0);
        due("the last", under(folk(4, 0, 0), "takes 3;takes 2").asks(0, 1, 0, 0), 2);
        due("the last that holds", under(folk(4, 0, 0), "takes 3;takes 2 if 1=2;takes 1/0").asks(0, 1, 0, 0), 3);
        due("0, told, is no lack", under(folk(4, 1, 2), "takes 0").asks(0, 1, 0, 0), 0);

        edge("terms II", "the other one's, if that one SWAYS it more than it SWAYS that one, or as much and has the higher number, else its own;");
        for (int firm = 3; firm <= 5; firm++) {
            RollsAgree x = new RollsAgree();
            x.person(4, 0, marks(1, 0, 0, 0));
            x.person(firm, 0, marks(2, 0, 0, 0));
            due("the lower one, 4 to " + firm, x.asks(0, 1, 0, 0), firm >= 4 ? 2 : 1);
            due("the higher one, " + firm + " to 4", x.asks(1, 0, 0, 0), firm >= 4 ? 2 : 1);
            due("they talk", x.talk(0, 1, 0), 1);
            due("both have it", x.of(0, 3) * 10 + x.of(1, 3), firm >= 4 ? 22 : 11);
            x.undo();
            due("the higher one first", x.talk(1, 0, 0), 1);
            due("both have it", x.of(0, 3) * 10 + x.of(1, 3), firm >= 4 ? 22 : 11);
        }
        RollsAgree y = under(folk(9, 1, 2), "sways 0 if person=1");
        due("by sways, not by firm", y.asks(0, 1, 0, 0) * 10 + y.asks(1, 0, 0, 0), 11);
        RollsAgree z = under(folk(9, 1, 2), "sways 9;sways 10 if person=0");
        due("10 is as much as 9", z.asks(0, 1, 0, 0) * 10 + z.asks(1, 0, 0, 0), 22);
    }

    private static void lawsWords() {
        edge("terms II", "All are asked of a PERSON that talks with another one of a DAY: mark: what the PERSON has, its: what the other one has.");
        RollsAgree x = new RollsAgree();
        x.person(9, 99, marks(0, 1, 2, 3));
        for (int i = 0; i < 4; i++) {
            x.person(5, 50, 0);
        }
        x.person(0, 0, marks(3, 2, 1, 0));
        x.terms(0, 999);
        x.terms(2, 9);
        String[] words = {"person", "other", "mark", "its", "firm", "age", "day", "week", "mood"};
        int[][] due = {{0, 5, 3, 0, 9, 99, 3, 999, 9}, {5, 0, 0, 3, 0, 0, 3, 999, 9}};
        for (int i = 0; i < words.length; i++) {
            x.image(0);
            under(x, "bars if person=" + due[0][0] + " and " + words[i] + "=" + due[0][i]);
            due("the first's " + words[i], x.asks(0, 5, 3, 2), 1);
            under(x, "bars if person=" + due[1][0] + " and " + words[i] + "=" + due[1][i]);
            due("the last's " + words[i], x.asks(5, 0, 3, 2), 1);
            x.back(0);
        }
        under(x, "takes mark if person=0;takes its if person=5");
        for (int day = 0; day < 4; day++) {
            due("of day " + day, x.asks(0, 5, day, 0) * 10 + x.asks(5, 0, day, 0), 11 * day);
        }
    }

    private static void bars() {
        edge("terms II", "it is BARRED from the other one, if \"bars\" HOLDS.");
        due("bars", under(folk(4, 0, 0), "bars").asks(0, 1, 0, 2), 1);
        due("not so", under(folk(4, 0, 0), "bars if 1=2").asks(0, 1, 0, 2), 0);
        due("broken", under(folk(4, 0, 0), "bars if 1/0=1").asks(0, 1, 0, 2), 0);
        due("a later one that does not", under(folk(4, 0, 0), "bars;bars if 1=2").asks(0, 1, 0, 2), 1);
        due("without bars", under(folk(4, 0, 0), "takes 1").asks(0, 1, 0, 2), 0);
        RollsAgree x = under(folk(4, 0, 0), "bars if person=0");
        due("it", x.asks(0, 1, 0, 2), 1);
        due("not the other one", x.asks(1, 0, 0, 2), 0);
    }

    private static void times() {
        edge("terms II", "TIMES: a NUMBER 1 .. 20.");
        due("1", orders(new RollsAgree(), "pass times 1"), 1);
        due("20", orders(new RollsAgree(), "pass times 20"), 20);
        faulty(true, "pass times 0", 11);
        faulty(true, "pass times 00", 11);
        faulty(true, "pass times 21", 11);
        faulty(true, "pass times 1000", 11);
        faulty(true, "pass times 1001", 11);
        faulty(true, "pass times 4294967297", 11);
        faulty(true, "pass times 18446744073709551617", 11);
        faulty(true, "pass times week", 11);
        faulty(true, "pass times [1]", 11);
        faulty(true, "pass times if 1=1", 11);
        faulty(true, "pass times", 10);

        edge("terms II", "each as often as TIMES tell (once without)");
        RollsAgree x = new RollsAgree();
        due("once, thrice, once", orders(x, "pass;pass times 3;pass"), 5);
        due("week", x.count(14), 5);
        due("240 at most", orders(x, "pass times 20;".repeat(11) + "pass times 20"), 240);
        due("week", x.count(14), 245);
    }

    private static void numberedWords() {
        edge("terms II", "(R: a NUMBER 0 .. 7, N: 0 .. 23, four times a PERSON and a DAY)");
        RollsAgree x = folk(1, 0, 0, 0, 0, 0, 0);
        x.person(0, 0, 0);
        due("0 and 7", orders(x, "pass if agrees 0=0-1;pass if agrees 7=0-1"), 2);
        for (int i = 0; i < 8; i++) {
            x.roll(0, 1);
        }
        due("0 and 7, there", orders(x, "pass if agrees 0=1;pass if agrees 7=1"), 2);
        faulty(true, "pass if agrees 8=1", 15);
        faulty(true, "pass if agrees 4294967296=1", 15);
        faulty(true, "pass if agrees [0]=1", 15);
        faulty(true, "pass if agrees=1", 14);
        RollsAgree y = new RollsAgree();
        y.person(1, 1, marks(3, 0, 0, 2));
        for (int i = 1; i < 6; i++) {
            y.person(1, 1, marks(0, 0, 0, i == 5 ? 1 : 0));
        }
        due("0, 3 and 23", orders(y, "pass if mark 0=3;pass if mark 3=2;pass if mark 23=1;pass if mark 4=3"), 3);
        faulty(true, "pass if mark 24=0", 13);
        faulty(true, "pass if mark 1001=0", 13);
        faulty(true, "pass if mark=0", 12);
        faulty(true, "pass if mark week=0", 13);

        edge("terms II", "R, N, TIMES aside, NUMBERS and words count as PARTS.");
        RollsAgree z = folk(1, 0, 0);
        String fortyNine = "pass times 2 if mark 0" + "+mark 1".repeat(40) + "+agrees 0".repeat(8);
        due("51", orders(z, fortyNine + "=0-8"), -6);
        due("the 51st", z.fault(), fortyNine.length() + 3);
        due("50", orders(z, fortyNine + "<0"), 2);
        due("50 in a sum, and times", orders(z, "bury 0" + "+0".repeat(49) + " times 1"), 1);
        due("51", orders(z, "bury 1" + "+0".repeat(50) + " times 1"), -6);
        due("the 51st", z.fault(), 105);
    }

    private static void ordersRun() {
        edge("terms II", "each time its \"if\" is asked (not run, if it is not so or BROKEN), then its SUMS from the left");
        RollsAgree x = folk(1, 0, 0);
        due("not so: even what can't be", orders(x, "bury 9 if 1=2;talk 0 with 0 of 9 if 1=2;develop 1/0 if 1=2"), 0);
        due("broken: even what can't be", orders(x, "bury 9 if 1/0=1;develop 9 if 1%0=1;bury 1/0 if 1000*1000*1000*2=1"), 0);
        due("no refusal", x.status(), 0);
        due("nothing could not be", x.stopped(), NONE);
        due("each time", orders(x, "pass times 20 if week<3"), 3);
        due("each time anew", orders(x, "pass times 5 if done%2=0;pass times 5 if done%2=1"), 2);
        due("broken at first", orders(x, "pass if 1/latest=1;talk 0 with 1 of 0;pass if 1/latest=1"), 1);
    }

    private static void ordersWords() {
        edge("terms II", "done: how many were run in this TEXT");
        RollsAgree x = folk(1, 0, 1, 2);
        due("0 at first", orders(x, "pass if done=0;pass if done=0;pass if done=1"), 2);
        due("0 in the next", orders(x, "pass if done=0"), 1);
        due("up to 240", orders(x, "pass times 20;".repeat(11) + "pass times 20 if done>219"), 240);

        edge("terms II", "latest: what the latest talk in it told (-1: none)");
        due("none", orders(x, "pass if latest=0-1"), 1);
        due("told", orders(x, "talk 0 with 1 of 0;pass if latest=1;talk 0 with 1 of 0;pass if latest=0;pass if latest=0"), 5);
        due("none in the next", orders(x, "pass if latest=0-1"), 1);

        edge("terms II", "living: how many PEOPLE");
        due("down to none", orders(x, "pass if living=3;bury 0;pass if living=2;bury 1;bury 2;pass if living=0"), 6);
        due("nobody there", orders(new RollsAgree(), "pass if living=0"), 1);

        edge("terms II", "agrees: whether a ROLL AGREES (1, 0; -1: no such one)");
        RollsAgree y = folk(1, 0, 1);
        y.roll(0, 3);
        y.roll(1, 3);
        due("0, 1, -1", orders(y, "pass if agrees 0=0;pass if agrees 1=1;pass if agrees 2=0-1;pass if agrees 7=0-1"), 4);
        due("nobody lives", orders(y, "bury 0 times 1;bury 1;pass if agrees 0=1"), 3);

        edge("terms II", "mark: of a PERSON of a DAY (-1: no such one)");
        RollsAgree z = new RollsAgree();
        z.person(1, 1, marks(0, 1, 2, 3));
        due("there", orders(z, "pass if mark 0=0;pass if mark 1=1;pass if mark 2=2;pass if mark 3=3"), 4);
        due("no such", orders(z, "pass if mark 4=0-1;pass if mark 23=0-1"), 2);
        due("of a dead one", orders(z, "bury 0;pass if mark 3=3"), 2);
    }

    private static void ordersThatCannotBe() {
        edge("terms II", "One that can't be (a BROKEN SUM, as talk(), develop(), bury(), pass() are REFUSED) ends it: all is as it was ahead of it.");
        String[] cannot = {"talk 0 with 1 of 1/0", "talk 0 with 1%0 of 0", "talk 1/0 with 1 of 0", "develop 1/0", "bury 1/0",
            "bury 1000*1000*1000*1000*0", "talk 0 with 1 of 4", "talk 0 with 1 of 0-1", "talk 1 with 1 of 0", "talk 0 with 3 of 0",
            "talk 0-1 with 1 of 0", "talk 0 with 2 of 0", "talk 2 with 0 of 0", "develop 1", "develop 2", "develop 0", "develop 0-1",
            "bury 3", "bury 0-1", "bury 2", "bury 2 if done=6", "pass times 20"};
        for (String c : cannot) {
            RollsAgree x = folk(1, 0, 1, 2);
            x.roll(0, 3);
            x.roll(1, 7);
            x.terms(0, 980);
            x.talk(0, 1, 1);
            String first = "pass;talk 0 with 1 of 0;talk 0 with 2 of 0;bury 2;develop 1;develop 0 if agrees 0=1;pass;";
            due("with " + c, orders(x, first + c + ";pass"), -3);
            due("stopped: " + c, x.stopped(), 7);
            due("week: " + c, x.count(14), 980);
            due("mark: " + c, x.of(0, 3), 0);
            due("living: " + c, x.count(1), 3);
            due("done: " + c, x.count(3), 0);
            due("can be undone: " + c, x.count(6), 1);
            due("refused once: " + c, x.count(8) + x.count(9) + x.count(10) + x.count(11) + x.count(12), 1);
            due("it is the talk: " + c, x.undo(), 0);
        }
        RollsAgree y = under(folk(1, 0, 1), "bars if week=1");
        due("barred", orders(y, "talk 0 with 1 of 0;pass;talk 0 with 1 of 0"), -3);
        due("stopped", y.stopped(), 2);
        due("as ahead", y.of(0, 3), 0);
        RollsAgree z = folk(1, 0);
        for (int i = 0; i < 16; i++) {
            z.pass();
        }
        due("beyond what is kept", orders(z, "pass times 20;bury 0;bury 0"), -3);
        due("week", z.count(14), 16);
        for (int i = 15; i >= 0; i--) {
            due("undone", z.undo(), 3);
            due("week", z.count(14), i);
        }
    }

    private static void talks() {
        edge("terms III", "A TALK of two PEOPLE of a DAY, both living, neither BARRED from the other");
        RollsAgree x = folk(1, 0, 1, 2);
        x.bury(1);
        due("the second is dead", x.talk(0, 1, 0), -3);
        due("the first is dead", x.talk(1, 0, 0), -3);
        due("both live", x.talk(0, 2, 0), 1);
        RollsAgree y = under(folk(1, 0, 1, 2), "bars if person=1 and other=0");
        due("the second is barred", y.talk(0, 1, 0), -3);
        due("the first is barred", y.talk(1, 0, 0), -3);
        due("not from this one", y.talk(1, 2, 0), 1);
        due("all stays", y.of(0, 3), 0);

        edge("terms III", "each has the MARK that it TAKES, both asked as it was ahead.");
        RollsAgree z = under(folk(1, 0, 3), "takes its");
        due("both", z.talk(0, 1, 0), 2);
        due("crosswise", z.of(0, 3) * 10 + z.of(1, 3), 30);
        due("of that day alone", z.of(0, 4) + z.of(1, 4), 0);
    }

    private static void deeds() {
        edge("terms III", "To DEVELOP a ROLL that AGREES and is not DONE: it is DONE.");
        RollsAgree x = folk(1, 0, 1);
        x.roll(0, 3);
        x.roll(1, 3);
        due("it does not agree", x.develop(0), -3);
        due("not done", x.at(0, 2), 0);
        due("it agrees", x.develop(1), 0);
        due("done", x.at(1, 2), 1);
        due("it is done", x.develop(1), -3);
        due("it stays so", x.at(1, 2), 1);

        edge("terms III", "To BURY one who lives: it is DEAD.");
        due("lives", x.bury(1), 1);
        due("dead", x.of(1, 2), 0);
        due("a dead one", x.bury(1), -3);
        due("it stays so", x.of(1, 2), 0);
        due("the other lives", x.of(0, 2), 1);

        edge("terms III", "A WEEK passes (at 999 it can't).");
        x.terms(0, 998);
        due("to 999", x.pass(), 999);
        due("no more", x.pass(), -3);
        due("week", x.count(14), 999);
        due("nor by orders", orders(x, "pass"), -3);
        due("week", x.count(14), 999);
        x.undo();
        due("once more", x.pass(), 999);
    }

    private static void onPaper() {
        edge("terms III", "(On paper, WEEK as now:)");
        RollsAgree x = under(folk(1, 0, 0, 0), "takes mark+1 if week=999;bars if week<998");
        x.roll(0, 7);
        x.roll(1, 1);
        x.terms(0, 999);
        // 1 of all three is an odd number of steps, and each talk makes two.
        due("ends", x.ends(0), 13);
        due("soonest", x.soonest(0, NONE), 0);
        due("house", x.house(0, 0), 0);
        // 1 1 0, 2 1 1, 2 2 2; 3 3 2, 3 3 3; then nothing.
        due("chatter", x.chatter(0, NONE), 3);
        due("chatter's marks", x.chatter(0, 0) + x.chatter(0, 1) + x.chatter(0, 2), 9);
        x.told(0, 1, 0);
        due("no row goes up to 0", x.were(0, NONE, 0), 0);
        x.givings(0);
        x.chance(0, 9);
        x.years(0, 1);
        for (int i = 0; i < 12; i++) {
            due("mark " + i + " stays", x.of(i / 4, 3 + i % 4), 0);
        }
        due("all live", x.count(1), 3);
        due("week", x.count(14), 999);
        due("nothing can be undone", x.count(6), 0);
        x.terms(0, 998);
        due("a week ahead", x.ends(0), 1);
        due("nothing to change then", x.chatter(0, NONE), 1);
        due("now it could be", x.were(0, NONE, 0), 4);
        x.terms(0, 997);
        due("barred", x.were(0, NONE, 0), 1);

        edge("terms III", "of a ROLL's DAY");
        RollsAgree y = under(folk(1, 0, 0), "takes mark;takes day if person=1");
        for (int day = 0; day < 4; day++) {
            y.roll(day, 3);
            due("ends of day " + day, y.ends(day), 1);
            due("chatter of day " + day, y.chatter(day, 1), day);
            y.told(0, 1, day);
            due("were of day " + day, y.were(day, NONE, 0), day == 0 ? 4 : 0);
        }
        RollsAgree z = under(folk(1, 0, 0), "takes 0;takes day if person=1");
        z.person(1, 1, marks(0, 0, 1, 0));
        z.roll(2, 4 + 1);
        due("the talk of day 2", z.soonest(0, NONE), 1);
        due("no other than day 2's", z.ends(0), 1);
    }

    private static void soonest() {
        edge("terms III", "SOONEST: the fewest TALKS of a ROLL's DAY (of any who live) behind which it AGREES;");
        RollsAgree x = folk(1, 0, 1, 2, 0);
        x.roll(0, 9);
        x.roll(0, 15);
        x.roll(1, 15);
        x.roll(0, 3);
        due("none is needed", x.soonest(0, NONE), 0);
        due("of its day", x.soonest(2, NONE), 0);
        due("two", x.soonest(1, NONE), 2);
        due("one", x.soonest(3, NONE), 1);
        x.bury(2);
        x.bury(3);
        due("of the living", x.soonest(1, NONE), 1);
        x.bury(1);
        due("one alone", x.soonest(1, NONE), 0);
        x.bury(0);
        due("nobody", x.soonest(1, NONE), 0);
        RollsAgree y = under(folk(1, 0, 1, 0), "bars if person+other=1");
        y.roll(0, 3);
        due("by one who is not on it", y.soonest(0, NONE), 1);
        y.bury(2);
        due("not by a dead one", y.soonest(0, NONE), NONE);

        edge("terms III", "the first as a row of numbers, ten times the lower PERSON and the higher one.");
        RollsAgree z = folk(1, 0, 1, 2, 0, 0, 0);
        z.roll(0, 7);
        due("two", z.soonest(0, NONE), 2);
        due("0 with 2 ahead of 1 with 2", z.soonest(0, 0) * 100 + z.soonest(0, 1), 212);
        RollsAgree v = folk(1, 0, 0, 0, 0, 0, 1);
        v.roll(0, 33);
        v.roll(0, 48);
        due("the lowest two", v.soonest(0, 0), 5);
        due("the highest two", v.soonest(1, 0), 45);
    }

    private static void endsAndHouse() {
        edge("terms III", "ENDS: on which MARKS a ROLL can AGREE by any TALKS, now too.");
        RollsAgree x = under(folk(1, 1, 1), "takes 3");
        x.roll(0, 3);
        x.roll(1, 3);
        due("now and later", x.ends(0), 10);
        due("the lowest and the highest", x.ends(1), 9);
        x.bury(0);
        due("now alone", x.ends(0), 2);
        x.bury(1);
        due("on none", x.ends(0), 0);
        RollsAgree y = under(folk(1, 0, 1), "bars");
        y.roll(0, 3);
        due("never", y.ends(0), 0);
        RollsAgree all = under(folk(1, 0, 0), "takes [mark+1]%4");
        all.roll(0, 3);
        due("on all", all.ends(0), 15);

        edge("terms III", "The HOUSE for a ROLL: the fewest who live, by TALKS of whom alone it can come to AGREE; the lowest as bits.");
        RollsAgree z = folk(1, 0, 1, 0, 1, 0);
        z.roll(0, 3);
        z.roll(0, 5);
        z.roll(0, 31);
        due("two", z.house(0, 1), 3);
        due("nobody is needed", z.house(1, 0), 0);
        due("nobody's bits", z.house(1, 1), 0);
        // 1 and 3 have the mark that the higher ones don't: 4 sways all.
        due("1, 3 and 4", z.house(2, 1), 26);
        due("three", z.house(2, 0), 3);
        RollsAgree v = under(folk(1, 0, 1, 1, 0), "bars if person+other=1");
        v.roll(0, 3);
        due("0 with 2 or 1 with 3: the lower bits", v.house(0, 1), 5);
        v.bury(2);
        due("1 with 3", v.house(0, 1), 10);
        v.bury(3);
        due("it can't be", v.house(0, 0), NONE);
    }

    private static void givings() {
        edge("terms III", "those who live hang together by ROLLS not DONE of it (ON one, or by others in a chain)");
        RollsAgree x = folk(1, 3, 3, 1, 1, 1, 1);
        for (int i = 4; i >= 0; i--) {
            x.roll(0, 3 << i);
        }
        due("a chain through all, from its low end", x.givings(1), 1);
        due("from its high end", x.givings(21), 1);
        due("two give", x.givings(0), 2);
        RollsAgree y = folk(1, 1, 1, 2, 2);
        y.roll(0, 3);
        y.roll(0, 12);
        y.roll(1, 15);
        due("two heaps", y.givings(0), 0);
        y.roll(0, 6);
        due("one heap", y.givings(0), 2);
        y.bury(1);
        due("a dead one does not link", y.givings(0), 0);
        y.undo();
        y.bury(2);
        due("nor the other one", y.givings(0), 0);
        RollsAgree d = folk(1, 1, 1, 2);
        d.roll(0, 3);
        d.roll(0, 7);
        due("not done", d.givings(0), 1);
        d.bury(2);
        d.develop(1);
        due("done, nobody gives", d.givings(0), 0);

        edge("terms III", "all of one heap have one MARK, the commonest of them, the lowest of alike ones");
        RollsAgree z = folk(1, 3, 0, 3, 0, 2, 1);
        z.roll(0, 63);
        due("alike: 0", z.givings(1), 0);
        due("four give", z.givings(0), 4);
        z.bury(1);
        due("3 is the commonest", z.givings(13), 3);
        due("the dead keep theirs", z.givings(5), 0);
        due("three give", z.givings(0), 3);

        edge("terms III", "(one ON no such ROLL keeps its own)");
        RollsAgree v = folk(1, 3, 2, 0);
        v.roll(1, 4);
        due("no roll of the day", v.givings(1) * 100 + v.givings(5) * 10 + v.givings(9), 320);
        v.roll(0, 3);
        due("not on it", v.givings(9), 0);
        due("on it", v.givings(1), 2);
    }

    private static void were() {
        edge("terms III", "WERE: rows of MARKS of all PEOPLE (also DEAD ones) of a DAY by which, all TOLD of it having been in order (BARRED ones not; DEAD ones lived), they are as now; as rows of numbers go.");
        RollsAgree x = folk(1, 2, 2, 1);
        due("nothing told: as now", x.were(0, NONE, 0), 1);
        due("its marks", x.were(0, 0, 0) * 100 + x.were(0, 0, 1) * 10 + x.were(0, 0, 2), 221);
        x.told(0, 1, 0);
        x.bury(0);
        x.bury(2);
        due("dead ones lived", x.were(0, NONE, 0), 4);
        due("rows as numbers go", x.were(0, 0, 0) * 100 + x.were(0, 1, 0) * 10 + x.were(0, 3, 0), 13);
        due("a dead one's mark", x.were(0, 3, 2), 1);
        due("another day: as now", x.were(1, NONE, 0), 1);
        x.told(1, 2, 0);
        due("it can't be", x.were(0, NONE, 0), 0);
        RollsAgree y = under(folk(1, 2, 2), "bars if mark=0");
        y.told(0, 1, 0);
        due("barred ones not: 0 had 1, 2 or 3", y.were(0, NONE, 0), 3);
        due("the first", y.were(0, 0, 0), 1);
        RollsAgree z = under(folk(1, 2, 2), "bars");
        z.told(0, 1, 0);
        due("all barred: as now", z.were(0, NONE, 0), 1);
        RollsAgree last = folk(1, 3, 3, 3, 3, 3, 3);
        last.told(5, 4, 0);
        due("the last two, the higher one first", last.were(0, NONE, 0), 4);
        due("4 had any", last.were(0, 2, 4) * 10 + last.were(0, 2, 5), 23);
        RollsAgree all = under(folk(1, 3, 3, 3, 3, 3, 3), "takes 3");
        all.told(0, 1, 0);
        all.told(3, 2, 0);
        all.told(4, 5, 0);
        due("all rows that can be", all.were(0, NONE, 0), 4096);
        due("the last", all.were(0, 4095, 0) * 10 + all.were(0, 4095, 5), 33);
        due("the second", all.were(0, 1, 0) * 10 + all.were(0, 1, 5), 1);
        due("the first", all.were(0, 0, 0) * 10 + all.were(0, 0, 5), 0);
    }

    private static void ask() {
        edge("terms III", "the PERSON of whom the most of these rows tell one MARK are as few as can be; the lowest.");
        RollsAgree x = folk(1, 2, 2, 2);
        due("one row: the lowest", x.ask(0, 0), 0);
        due("one is left", x.ask(0, 1), 1);
        x.told(1, 2, 0);
        due("1 had any", x.ask(0, 0), 1);
        due("one is left", x.ask(0, 1), 1);
        x.told(0, 2, 0);
        due("both had any: the lowest", x.ask(0, 0), 0);
        due("four are left", x.ask(0, 1), 4);
        x.told(0, 1, 1);
        x.bury(0);
        due("a dead one, too", x.ask(1, 0), 0);
    }

    private static void chatter() {
        edge("terms III", "till no MARK changes in a round (50 rounds at most)");
        due("the first", folk(1, 2, 2).chatter(0, NONE), 1);
        due("the second", folk(1, 1, 2).chatter(0, NONE), 2);
        due("the 49th", clock(2).chatter(0, NONE), 49);
        due("the 50th", clock(1).chatter(0, NONE), 50);
        due("marks of the 50th", clock(1).chatter(0, 3), 3);
        due("not in 50", clock(0).chatter(0, NONE), NONE);
        due("no marks then", clock(0).chatter(0, 3), NONE);
        due("never", under(folk(1, 0, 1), "takes its").chatter(0, NONE), NONE);

        edge("terms III", "all twos (the lower one by numbers, then the higher) who can TALK of a DAY");
        RollsAgree x = under(folk(1, 0, 1, 2), "takes mark;takes its if other=person+1 and mark<its");
        // 0 with 1: 1 1 2; 1 with 2: 1 2 2; then 2 2 2; then nothing.
        due("in order", x.chatter(0, NONE), 3);
        due("0 has 2", x.chatter(0, 0), 2);
        x.bury(1);
        due("dead ones can't", x.chatter(0, NONE), 1);
        due("nobody", new RollsAgree().chatter(0, NONE), 1);
        due("one alone", folk(1, 3).chatter(0, 0), 3);
        due("barred ones can't", under(folk(1, 0, 1), "bars").chatter(0, 0), 0);
    }

    private static void chance() {
        edge("terms III", "one lives yet by 1,000,000 times the rest by ten for each WEEK, cut each time;");
        RollsAgree x = folk(1, 0, 1);
        x.roll(0, 3);
        x.terms(1, 3);
        // 700000, 490000, 343000, 240100, 168070, 117649, 82354, 57647, 40352, 28246: not 28247.
        due("cut ten times", x.chance(0, 10), 944305 + 27448 + 27448);
        due("no week: both live", x.chance(0, 0), 0);
        x.terms(1, 10);
        due("the rest is none", x.chance(0, 1), 1000000);
        due("no week", x.chance(0, 0), 0);
        x.terms(1, 0);
        due("the rest is all", x.chance(0, 99), 0);
        x.terms(1, 1);
        due("99 weeks: next to none", x.chance(0, 99) > 999000 ? 1 : 0, 1);

        edge("terms III", "to live, else to be DEAD) by 1,000,000, cut each time, all together.");
        RollsAgree y = folk(1, 1, 1, 1);
        y.roll(0, 7);
        y.roll(0, 1);
        y.terms(1, 3);
        // 343000 and 657000: 283593, three times 148055, three times 77295, 40353.
        due("what is cut is lost", y.chance(0, 3), 283593 + 3 * 148055 + 3 * 77295 + 40353);
        due("of one alone nothing is", y.chance(1, 3), 1000000);

        edge("terms III", "of all sets that may live yet by which it AGREES");
        RollsAgree w = folk(1, 0, 1, 1);
        w.roll(0, 7);
        // Nobody 8000, one alone 32000 each, 1 with 2 128000.
        due("nobody, too", w.chance(0, 1), 232000);
        w.terms(1, 0);
        due("all three", w.chance(0, 1), 0);
        w.talk(0, 1, 0);
        due("all three, now agreeing", w.chance(0, 1), 1000000);
        w.terms(1, 10);
        due("nobody", w.chance(0, 1), 1000000);

        edge("terms III", "if each who lives ON it dies in RATE of ten each WEEK");
        RollsAgree z = folk(1, 0, 1, 1);
        z.roll(0, 7);
        due("all of now", z.chance(0, 0), 0);
        z.bury(0);
        due("the dead are dead", z.chance(0, 0), 1000000);
        due("they agree", z.chance(0, 99) > 999990 ? 1 : 0, 1);
        z.bury(1);
        z.bury(2);
        due("nobody lives", z.chance(0, 0), 1000000);
        due("nobody dies then", z.chance(0, 99), 1000000);
    }

    private static void years() {
        edge("terms IV", "n WEEKS 1 .. 100, on paper");
        RollsAgree x = under(folk(1, 0, 0, 0), "takes 3");
        for (int n : outside(101)) {
            due("weeks " + n, x.years(0, n), -1);
        }
        due("weeks 0", x.years(0, 0), -1);
        due("1 week", x.years(0, 1), 2);
        due("100 weeks: all 3", x.years(0, 100), 12);
        due("on paper", x.of(1, 4), 0);
        due("week", x.count(14), 0);

        edge("terms IV", "s is the SEED (0 .. 1,000,000)");
        RollsAgree y = under(folk(1, 0, 0, 0), "takes 3");
        for (int seed : outside(1000001)) {
            due("seed " + seed, y.years(seed, 1), -1);
        }
        due("seed 0", y.years(0, 1), 2);
        due("seed 1,000,000", y.years(1000000, 1), changes(1000000, 1, 3));

        edge("terms IV", "a DRAW of m: s becomes (s times 1103 and 12345) modulo 1,000,003, it is s modulo m.");
        for (int seed : new int[] {0, 1, seedBefore(0), seedBefore(1), seedBefore(1000002), 906, 907, 999999, 1000000}) {
            for (int people = 2; people <= 6; people++) {
                RollsAgree z = under(folk(1, new int[people]), "takes 3");
                due("seed " + seed + ", one week of " + people, z.years(seed, 1), changes(seed, 1, people));
                due("seed " + seed + ", 50 weeks of " + people, z.years(seed, 50), changes(seed, 50, people));
                for (int i = 0; i < 4 * people; i++) {
                    due("mark " + i, z.drawn(i / 4, i % 4), marksBehind(seed, 50, people)[i]);
                }
            }
        }
    }

    /** The seed whose first draw leaves s so. */
    private static int seedBefore(int s) {
        for (int seed = 0; seed <= 1000000; seed++) {
            if ((seed * 1103L + 12345) % 1000003 == s) {
                return seed;
            }
        }
        return 0;
    }

    /** All at 0, each who talks takes 3. */
    private static int[] marksBehind(int seed, int weeks, int people) {
        int[] marks = new int[4 * people];
        long s = seed;
        for (int i = 0; i < weeks; i++) {
            long[] drawn = new long[3];
            for (int k = 0; k < 3; k++) {
                s = (s * 1103 + 12345) % 1000003;
                drawn[k] = s % (k == 0 ? 4 : people);
            }
            if (drawn[1] != drawn[2]) {
                marks[(int) (4 * drawn[1] + drawn[0])] = 3;
                marks[(int) (4 * drawn[2] + drawn[0])] = 3;
            }
        }
        return marks;
    }

    private static int changes(int seed, int weeks, int people) {
        int changes = 0;
        for (int mark : marksBehind(seed, weeks, people)) {
            changes += mark / 3;
        }
        return changes;
    }

    private static void yearsTalks() {
        edge("terms IV", "Each WEEK (at 999 it ends)");
        RollsAgree x = under(folk(1, 0, 0, 0), "takes week%4");
        x.terms(0, 999);
        due("at 999", x.years(0, 100), 0);
        due("nothing happened", x.drawn(1, 1) + x.drawn(2, 1), 0);
        x.terms(0, 998);
        // 998 is 2 of four; in this week 1 and 2 talk of day 1.
        due("one week yet", x.years(0, 100), 2);
        due("they took 2", x.drawn(1, 1) + x.drawn(2, 1), 4);
        x.terms(0, 997);
        due("one of one week", x.years(0, 1), 2);
        due("they took 1", x.drawn(1, 1) + x.drawn(2, 1), 2);
        due("week", x.count(14), 997);

        edge("terms IV", "DRAWS of 4 (a DAY), of PEOPLE, of PEOPLE:");
        RollsAgree w = under(folk(1, 0, 0, 0, 0, 0, 0), "takes 3");
        w.bury(0);
        w.bury(2);
        // 628841 is 5 of six and 1 of the four who live, 621889 is 1 of both.
        due("of all, also dead ones", w.years(0, 1), 2);
        due("5 talked", w.drawn(5, 1), 3);
        due("with 1", w.drawn(1, 1), 3);
        int[] all = marksBehind(0, 100, 6);
        due("one alone draws himself", under(folk(1, 2), "takes 3").years(1, 100), 0);
        RollsAgree v = under(folk(1, 0, 0, 0, 0, 0, 0), "takes 3");
        v.years(0, 100);
        for (int i = 0; i < 24; i++) {
            due("mark " + i, v.drawn(i / 4, i % 4), all[i]);
        }

        edge("terms IV", "those two TALK of it, if they can; then the WEEK passes.");
        RollsAgree y = under(folk(1, 0, 0, 0), "takes 3;bars if week=0");
        due("barred", y.years(0, 1), 0);
        y.terms(0, 1);
        due("not barred", y.years(0, 1), 2);
        y.bury(2);
        due("the second is dead", y.years(0, 1), 0);
        y.undo();
        y.bury(1);
        due("the first is dead", y.years(0, 1), 0);
        due("one alone", under(folk(1, 0), "takes 3").years(0, 100), 0);
        for (int i = 0; i < 16; i++) {
            RollsAgree two = new RollsAgree();
            two.person(1, 1, marks(0, 1, 0, 0));
            two.person(1, 1, marks(0, i / 4, 0, 0));
            two.person(1, 1, marks(0, i % 4, 0, 0));
            due("one takes the other's", two.years(0, 1), i / 4 == i % 4 ? 0 : 1);
            due("1 has what 2 has", two.drawn(0, 1) * 100 + two.drawn(1, 1) * 10 + two.drawn(2, 1), 100 + i % 4 * 11);
            under(two, "takes its");
            due("each takes the other's", two.years(0, 1), i / 4 == i % 4 ? 0 : 2);
            due("crosswise", two.drawn(0, 1) * 100 + two.drawn(1, 1) * 10 + two.drawn(2, 1), 100 + i % 4 * 10 + i / 4);
        }
        RollsAgree z = under(folk(1, 0, 0, 0), "takes 1-week");
        due("the first week", z.years(0, 1), 2);
        z.terms(0, 1);
        due("the second takes 0", z.years(0, 100), 0);
    }

    private static void rows() {
        edge("terms IV", "FIRM, AGE, MARKS (64, 16, 4 times that of DAY 0, 1, 2, and that of DAY 3): a PERSON;");
        RollsAgree x = new RollsAgree();
        put(x, "\u0000\u0000\u0000\tc\u00ff\u0005\u0006\u001b");
        due("three", x.row(), 3);
        due("no grain", x.grain(), 0);
        for (int day = 0; day < 4; day++) {
            due("of day " + day, x.of(0, 3 + day) * 100 + x.of(1, 3 + day) * 10 + x.of(2, 3 + day), 30 + day);
        }
        due("firm", x.of(0, 0) * 100 + x.of(1, 0) * 10 + x.of(2, 0), 95);
        due("age", x.of(0, 1) + x.of(1, 1) + x.of(2, 1), 105);

        edge("terms IV", "one that can't be, one within which the TAPE ends, one for which there is no room is GRAIN: nobody.");
        RollsAgree y = new RollsAgree();
        put(y, "\n\u0000\u0000\u0000d\u0000\u00ff\u0000\u0000\u0000\u00ff\u0000\tc\u0000\u0001\u0001");
        due("one can be", y.row(), 1);
        due("four can't, the tape ends in one", y.grain(), 5);
        due("one came", y.count(0), 1);
        put(y, "\u0001");
        due("one byte", y.row(), 0);
        due("one grain", y.grain(), 1);
        put(y, "\u0001\u0001");
        due("two bytes", y.row(), 0);
        due("one grain", y.grain(), 1);
        put(y, "\u0001\u0001\u0001".repeat(7) + "\u0001");
        due("room for five", y.row(), 5);
        due("two and the end", y.grain(), 3);
        due("six", y.count(0), 6);
        put(y, "\u0001\u0001\u0001".repeat(133) + "\u0001");
        due("no room for any", y.row(), 0);
        due("all grain", y.grain(), 134);
        due("it is no refusal", y.status(), 0);
    }

    private static void imagesKeep() {
        edge("terms IV", "IMAGES 0, 1 keep all but");
        RollsAgree x = under(folk(1, 0, 1), "takes 2");
        x.roll(0, 3);
        x.roll(1, 3);
        x.develop(1);
        x.bury(1);
        x.told(0, 1, 0);
        x.terms(0, 5);
        x.terms(1, 6);
        x.terms(2, 7);
        x.image(1);
        int[] due = {2, 1, 2, 1, 1, 1};
        x.person(1, 1, 1);
        x.bury(0);
        x.roll(0, 1);
        x.develop(0);
        x.forget();
        law(x, "takes 3");
        x.force(NONE);
        x.terms(0, 8);
        x.terms(1, 8);
        x.terms(2, 8);
        x.image(0);
        x.back(1);
        for (int i = 0; i < due.length; i++) {
            due("1: count(" + i + ")", x.count(i), due[i]);
        }
        due("1: force", x.count(13), 0);
        due("1: terms", x.count(14) * 100 + x.count(15) * 10 + x.count(16), 567);
        due("1: who lives", x.of(0, 2) * 10 + x.of(1, 2), 10);
        due("1: what is done", x.at(0, 2) * 10 + x.at(1, 2), 1);
        due("1: what is told", x.were(0, NONE, 0), 0);
        due("1: the law", x.asks(0, 1, 0, 0), 2);
        x.back(0);
        int[] due0 = {3, 1, 3, 2, 0, 2, 0};
        for (int i = 0; i < due0.length; i++) {
            due("0: count(" + i + ")", x.count(i), due0[i]);
        }
        due("0: force", x.count(13), NONE);
        due("0: terms", x.count(14) * 100 + x.count(15) * 10 + x.count(16), 888);
        due("0: who lives", x.of(0, 2) * 100 + x.of(1, 2) * 10 + x.of(2, 2), 1);
        x.force(1);
        due("0: the law", x.asks(0, 1, 0, 0), 3);
    }

    private static void imagesDoNotKeep() {
        edge("terms IV", "but the TAPE, FAULT, GRAIN, where ORDERS stopped, what can be undone (nothing, behind back()), the latest YEARS;");
        RollsAgree x = under(folk(1, 0, 0, 0), "takes 3");
        x.pass();
        x.image(0);
        due("image() leaves what can be undone", x.count(6), 1);
        put(x, "\u0001\u0001");
        x.row();
        orders(x, "pass;bury 9");
        x.years(0, 1);
        law(x, "bars ?");
        put(x, "pass");
        x.pass();
        due("back", x.back(0), 0);
        due("tape", x.count(7), 4);
        due("fault", x.fault(), 5);
        due("grain", x.grain(), 1);
        due("stopped", x.stopped(), 1);
        due("years", x.drawn(1, 1), 3);
        due("nothing can be undone", x.count(6), 0);
        due("nothing is", x.undo(), -3);
        due("what is on the tape", x.orders(), 1);
        RollsAgree y = folk(1, 0, 0, 0);
        y.image(0);
        due("years behind it", under(y, "takes 3").years(0, 1), 2);
        y.back(0);
        due("they stay", y.drawn(2, 1), 3);
    }

    private static void back() {
        edge("terms IV", "BACK to one all that it keeps is as it was then (IMAGES stay).");
        RollsAgree x = new RollsAgree();
        x.image(0);
        x.person(1, 1, marks(1, 1, 1, 1));
        x.person(1, 1, marks(2, 2, 2, 2));
        x.image(1);
        for (int i = 0; i < 3; i++) {
            x.talk(0, 1, i);
            due("back to 1", x.back(1), 0);
            due("two", x.count(0), 2);
            due("mark", x.of(0, 3 + i), 1);
            due("back to 0", x.back(0), 0);
            due("nobody", x.count(0), 0);
            x.person(9, 9, 9);
        }
        x.back(1);
        x.talk(0, 1, 3);
        x.image(1);
        x.back(0);
        x.back(1);
        due("kept anew", x.of(0, 6), 2);
        oneThenTheOther();

        edge("terms IV", "`NONE = -1`: There is none.");
        due("NONE", RollsAgree.NONE, -1);
    }

    /** Two full worlds that differ in all: each comes back whole over the other. */
    private static void oneThenTheOther() {
        RollsAgree x = new RollsAgree();
        x.image(0);
        fill(x, 0);
        x.image(1);
        x.back(0);
        fill(x, 1);
        x.image(0);
        for (int k = 1; k >= 0; k--) {
            due("back", x.back(k), 0);
            int which = 1 - k;
            for (int i = 0; i < 6; i++) {
                due(k + ": firm of " + i, x.of(i, 0), i + which);
                due(k + ": age of " + i, x.of(i, 1), 10 * i + which);
                due(k + ": marks of " + i, x.of(i, 3) * 1000 + x.of(i, 4) * 100 + x.of(i, 5) * 10 + x.of(i, 6), which * 1111 + i % 2);
            }
            for (int i = 0; i < 8; i++) {
                due(k + ": day of roll " + i, x.at(i, 0), (i + which) % 4);
                due(k + ": who is on roll " + i, x.at(i, 1), 1 + i + which);
            }
            for (int law = 0; law < 6; law++) {
                x.force(law);
                due(k + ": law " + law, x.asks(0, 1, 0, 1), law + which);
            }
            x.force(NONE);
            // The less firm one of the two who talked had any mark.
            due(k + ": told of its day", x.were(which, NONE, 0), 4);
            due(k + ": who talked", x.were(which, 3, which), 3);
            due(k + ": who did not", x.were(which, 3, 1 - which), which);
            due(k + ": told of the other day", x.were(1 - which, NONE, 0), 1);
        }
    }

    private static void fill(RollsAgree x, int which) {
        for (int i = 0; i < 6; i++) {
            x.person(i + which, 10 * i + which, which * 85 + i % 2);
        }
        for (int i = 0; i < 8; i++) {
            x.roll((i + which) % 4, 1 + i + which);
            x.told(i % 2 == 0 ? which : 5, i % 2 == 0 ? 5 : which, which);
        }
        for (int law = 0; law < 6; law++) {
            law(x, "sways " + (law + which));
        }
    }
}
