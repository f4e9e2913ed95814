/** Each sentence of the promises 1 to 37 that names an edge, on small worlds whose answers were worked out by hand. */
public final class PromiseEdgeRuns extends Edges {
    public static void main(String[] args) {
        newObject();
        person();
        of();
        roll();
        at();
        terms();
        feed();
        end();
        row();
        grain();
        law();
        orders();
        fault();
        stopped();
        force();
        asks();
        talk();
        develop();
        bury();
        pass();
        undo();
        undoKept();
        undoMixed();
        undoBehindOthers();
        soonest();
        ends();
        house();
        givings();
        told();
        forget();
        were();
        ask();
        chatter();
        chance();
        years();
        drawn();
        image();
        back();
        count();
        countRefusals();
        status();
        String[] all = new String[37];
        for (int i = 0; i < all.length; i++) {
            all[i] = "" + (i + 1);
        }
        closeEdges(all);
    }

    private static void newObject() {
        edge("1", "Nobody, no rolls.");
        RollsAgree x = new RollsAgree();
        for (int what = 0; what <= 12; what++) {
            due("count(" + what + ")", x.count(what), 0);
        }
        due("nobody's firm", x.of(0, 0), NONE);
        due("no roll's day", x.at(0, 0), NONE);
        due("nobody to talk", x.talk(0, 1, 0), -2);
        due("nobody to bury", x.bury(0), -2);
        due("nobody for a roll", x.roll(0, 1), -1);
        due("nothing to develop", x.develop(0), -2);
        due("no way", x.soonest(0, NONE), NONE);
        due("no ends", x.ends(0), NONE);
        due("no house", x.house(0, 0), NONE);
        due("no chance", x.chance(0, 0), NONE);
        due("none gives", x.givings(0), 0);
        due("no mark given", x.givings(1), NONE);
        RollsAgree other = folk(1, 0);
        due("the one object is not the other", x.count(0) * 10 + other.count(0), 1);
    }

    private static void person() {
        edge("2", "A PERSON, MARKS 0 .. 255 as in a ROW: the number.");
        RollsAgree x = new RollsAgree();
        for (int marks : outside(256)) {
            due("marks " + marks, x.person(1, 1, marks), -1);
        }
        due("marks 0", x.person(1, 1, 0), 0);
        due("marks 255", x.person(1, 1, 255), 1);
        due("marks 64", x.person(1, 1, 64), 2);
        due("marks 16", x.person(1, 1, 16), 3);
        due("marks 4", x.person(1, 1, 4), 4);
        due("marks 1", x.person(1, 1, 1), 5);
        for (int day = 0; day < 4; day++) {
            due("0 of day " + day, x.of(0, 3 + day), 0);
            due("255 of day " + day, x.of(1, 3 + day), 3);
            for (int i = 0; i < 4; i++) {
                due("of person " + (2 + i) + " of day " + day, x.of(2 + i, 3 + day), i == day ? 1 : 0);
            }
        }

        edge("2", "-1; -5.");
        RollsAgree y = folk(1, 0, 0, 0, 0, 0);
        due("bad", y.person(10, 0, 0), -1);
        due("it did not come", y.count(0), 5);
        due("the last", y.person(9, 99, 255), 5);
        due("no room", y.person(0, 0, 0), -5);
        due("nor for the next", y.person(0, 0, 0), -5);
        due("six stay", y.count(0), 6);
        due("six live", y.count(1), 6);
        due("the last stays", y.of(5, 0), 9);
        due("bad, and no room", y.person(-1, 0, 0), -1);
        due("dead ones leave no room", y.bury(0) * 10 + y.person(0, 0, 0), 45);
    }

    private static void of() {
        edge("3", "Of a PERSON FIRM (what 0), AGE (1), whether it lives (2: 1, 0), the MARK of DAY d (3 + d). NONE.");
        RollsAgree x = new RollsAgree();
        x.person(7, 61, marks(3, 1, 0, 2));
        int[] due = {7, 61, 1, 3, 1, 0, 2};
        for (int what = 0; what < due.length; what++) {
            due("what " + what, x.of(0, what), due[what]);
        }
        for (int what : outside(7)) {
            due("what " + what, x.of(0, what), NONE);
        }
        for (int person : outside(1)) {
            for (int what = 0; what < 7; what++) {
                due("person " + person + ", what " + what, x.of(person, what), NONE);
            }
        }
        x.bury(0);
        due("dead", x.of(0, 2), 0);
        due("it has its mark", x.of(0, 3), 3);
        due("status", x.status(), 0);
    }

    private static void roll() {
        edge("4", "-1 (ON it nobody, one there is not); -5.");
        RollsAgree x = folk(1, 0, 1, 2);
        for (int on : outside(8)) {
            due("on " + on, x.roll(0, on), -1);
        }
        due("on nobody", x.roll(0, 0), -1);
        due("on one there is and one there is not", x.roll(0, 9), -1);
        due("on 32 bits", x.roll(0, 0x80000001), -1);
        for (int day : outside(4)) {
            due("day " + day, x.roll(day, 1), -1);
        }
        due("no roll came", x.count(2), 0);
        due("on all", x.roll(3, 7), 0);
        x.bury(2);
        due("on a dead one", x.roll(0, 4), 1);
        x.person(0, 0, 0);
        due("on one who came", x.roll(0, 8), 2);
        for (int i = 3; i < 8; i++) {
            due("roll " + i, x.roll(0, 1), i);
        }
        due("no room", x.roll(0, 1), -5);
        due("on nobody, and no room", x.roll(0, 0), -1);
        due("a bad day, and no room", x.roll(4, 1), -1);
        due("eight stay", x.count(2), 8);
        RollsAgree y = folk(1, 0, 0, 0, 0, 0, 0);
        due("on a 7th", y.roll(0, 64), -1);
        due("on a 7th, too", y.roll(0, 127), -1);
    }

    private static void at() {
        edge("5", "Of a ROLL the DAY (what 0), who is ON it, as bits (1), DONE (2: 1, 0), whether it AGREES (3: 1, 0). NONE.");
        RollsAgree x = folk(1, 0, 1);
        x.roll(0, 3);
        x.roll(3, 2);
        x.develop(1);
        due("0: day", x.at(0, 0), 0);
        due("0: who", x.at(0, 1), 3);
        due("0: not done", x.at(0, 2), 0);
        due("0: does not agree", x.at(0, 3), 0);
        due("1: day", x.at(1, 0), 3);
        due("1: who", x.at(1, 1), 2);
        due("1: done", x.at(1, 2), 1);
        due("1: agrees", x.at(1, 3), 1);
        for (int what : outside(4)) {
            due("what " + what, x.at(0, what), NONE);
        }
        for (int roll : outside(2)) {
            for (int what = 0; what < 4; what++) {
                due("roll " + roll + ", what " + what, x.at(roll, what), NONE);
            }
        }
        x.bury(1);
        due("who is dead stays on it", x.at(0, 1), 3);
        due("it agrees then", x.at(0, 3), 1);
    }

    private static void terms() {
        edge("6", "A TERM: what it was. -1.");
        RollsAgree x = new RollsAgree();
        due("week", x.terms(0, 999), 0);
        due("rate", x.terms(1, 0), 2);
        due("mood", x.terms(2, 9), 0);
        due("week was", x.terms(0, 999), 999);
        due("rate was", x.terms(1, 10), 0);
        due("mood was", x.terms(2, 0), 9);
        for (int what : outside(3)) {
            due("term " + what, x.terms(what, 0), -1);
        }
        int[] beyond = {1000, 11, 10};
        for (int what = 0; what < 3; what++) {
            due("below", x.terms(what, -1), -1);
            due("beyond", x.terms(what, beyond[what]), -1);
            due("far", x.terms(what, FAR), -1);
            due("far below", x.terms(what, FAR_BELOW), -1);
        }
        due("all stay", x.count(14) * 1000 + x.count(15) * 10 + x.count(16), 999100);
    }

    private static void feed() {
        edge("7", "Twenty bytes come behind the TAPE, four of each number, the highest first: how many it has.");
        RollsAgree x = new RollsAgree();
        due("twenty", x.feed(0x01020309, 0x63FF0000, 0x00000000, 0x00000000, 0x00000001), 20);
        x.end(6);
        due("behind six", x.feed(0x04050600, -1, FAR, FAR_BELOW, 0x00630000), 26);
        x.end(9);
        due("three", x.row(), 3);
        due("firm, the highest byte", x.of(0, 0), 1);
        due("age, the second", x.of(0, 1), 2);
        due("marks, the third", x.of(0, 6), 3);
        due("the lowest ahead of the next number's highest", x.of(1, 0) * 100 + x.of(1, 1), 999);
        due("255", x.of(1, 3), 3);
        due("behind what was left", x.of(2, 0) * 10 + x.of(2, 1), 45);
        RollsAgree y = new RollsAgree();
        y.feed(-1, FAR_BELOW, 0x80808080, 0, 0);
        y.end(4);
        y.feed(-1, -1, 0x80808080, 0, 0);
        y.end(15);
        due("bytes above 127 are no people's", y.row(), 0);
        due("they are grain", y.grain(), 5);

        edge("7", "NONE, if there would be more than 400.");
        RollsAgree z = new RollsAgree();
        for (int i = 1; i <= 20; i++) {
            due("feed " + i, z.feed(0x70617373, 0, 0, 0, 0), 20 * i);
        }
        due("400 are all", z.feed(1, 1, 1, 1, 1), NONE);
        due("still 400", z.count(7), 400);
        z.end(381);
        due("401 would be", z.feed(1, 1, 1, 1, 1), NONE);
        due("still 381", z.count(7), 381);
        z.end(380);
        due("400 are", z.feed(1, 1, 1, 1, 1), 400);
        due("it is no refusal", z.status(), 0);
        due("nothing is counted", z.count(8) + z.count(11), 0);
        z.end(4);
        due("what was refused did not come", z.orders(), 1);
    }

    private static void end() {
        edge("8", "The TAPE has its first n bytes alone: n.");
        RollsAgree x = new RollsAgree();
        x.feed(0x70617373, 0x3f3f3f3f, 0, 0, 0);
        due("all", x.end(20), 20);
        due("four", x.end(4), 4);
        due("the first", x.orders(), 1);
        x.feed(0x70617373, 0, 0, 0, 0);
        due("none", x.end(0), 0);
        due("none on an empty one", x.end(0), 0);
        due("empty", x.row(), -6);

        edge("8", "NONE, if it has not so many, or n is below 0.");
        RollsAgree y = new RollsAgree();
        due("an empty one", y.end(1), NONE);
        y.feed(0, 0, 0, 0, 0);
        for (int n : outside(21)) {
            due("end(" + n + ")", y.end(n), NONE);
        }
        due("all stays", y.count(7), 20);
        y.end(7);
        due("what was cut is no more", y.end(8), NONE);
        due("seven", y.end(7), 7);
        due("it is no refusal", y.status(), 0);
    }

    private static void row() {
        edge("9", "A ROW, the TAPE is empty then: how many PEOPLE came. -6 the TAPE is empty.");
        RollsAgree x = new RollsAgree();
        due("nothing", x.row(), -6);
        due("status", x.status(), -6);
        put(x, "\u0001\u0001\u0001\u0002\u0002\u0002");
        due("two", x.row(), 2);
        due("status", x.status(), 0);
        due("empty", x.count(7), 0);
        due("nothing again", x.row(), -6);
        put(x, "\u00ff");
        due("grain alone is no refusal", x.row(), 0);
        due("status", x.status(), 0);
        due("empty", x.count(7), 0);
        x.feed(0, 0, 0, 0, 0);
        x.end(0);
        due("emptied", x.row(), -6);
        x.feed(0, 0, 0, 0, 0);
        x.end(18);
        due("room for four", x.row(), 4);
        x.feed(0, 0, 0, 0, 0);
        due("no room is no refusal", x.row(), 0);
        due("status", x.status(), 0);
        due("six", x.count(0), 6);
    }

    private static void grain() {
        edge("10", "How much GRAIN the latest row() had that was not REFUSED (0 ahead of any).");
        RollsAgree x = new RollsAgree();
        due("ahead of any", x.grain(), 0);
        x.row();
        due("a refused one", x.grain(), 0);
        put(x, "\u00ff\u00ff\u00ff\u00ff");
        x.row();
        due("two", x.grain(), 2);
        x.row();
        due("two, as a refused one does not matter", x.grain(), 2);
        put(x, "bars");
        x.law();
        due("two, as a law does not", x.grain(), 2);
        put(x, "\u0001\u0001\u0001");
        x.row();
        due("none in the latest", x.grain(), 0);
    }

    private static void law() {
        edge("11", "The TAPE, which is empty then, becomes a LAW: its number.");
        RollsAgree x = new RollsAgree();
        due("0", law(x, "bars"), 0);
        due("empty", x.count(7), 0);
        due("not read twice", x.law(), -6);
        due("5 in all", law(x, "bars") + law(x, "bars") + law(x, "bars") + law(x, "bars"), 10);
        due("the last", law(x, "bars"), 5);

        edge("11", "-5 (ahead of reading it; the TAPE is empty then, too)");
        orders(x, "pass ?");
        due("no room", law(x, "bars"), -5);
        due("empty, too", x.count(7), 0);
        due("no room for what can't be", law(x, "takes ?"), -5);
        due("it was not read", x.fault(), 5);
        due("empty, too", x.count(7), 0);
        due("no room for nothing", x.law(), -5);
        due("six", x.count(5), 6);

        edge("11", "-6 (blanks alone: FAULT at the end).");
        RollsAgree y = new RollsAgree();
        due("nothing", y.law(), -6);
        due("its end", y.fault(), 0);
        due("one blank", law(y, " "), -6);
        due("its end", y.fault(), 1);
        due("400 blanks", law(y, " ".repeat(400)), -6);
        due("their end", y.fault(), 400);
        due("empty", y.count(7), 0);
        due("none came", y.count(5), 0);
        due("what can't be", law(y, "takes 1;"), -6);
        due("empty", y.count(7), 0);
        due("none came", y.count(5), 0);
        due("the first", law(y, "takes 1"), 0);
    }

    private static void orders() {
        edge("12", "ORDERS, the TAPE is empty then: how many were run. -3 one can't be; -6 (as for law()).");
        RollsAgree x = folk(1, 0);
        due("none", orders(x, "pass if 1=2"), 0);
        due("status", x.status(), 0);
        due("one", orders(x, "pass"), 1);
        due("empty", x.count(7), 0);
        due("not run twice", x.orders(), -6);
        due("240", orders(x, "pass times 20;".repeat(11) + "pass times 20"), 240);
        due("can't be", orders(x, "bury 1"), -3);
        due("status", x.status(), -3);
        due("no fault", x.fault(), NONE);
        due("empty", x.count(7), 0);
        due("nothing", orders(x, ""), -6);
        due("its end", x.fault(), 0);
        due("blanks alone", orders(x, "   "), -6);
        due("their end", x.fault(), 3);
        due("stopped nowhere", x.stopped(), NONE);
        due("not even begun", orders(x, "pass;pass;pass ?"), -6);
        due("empty", x.count(7), 0);
        due("week", x.count(14), 241);
        due("refused by -3, by -6", x.count(10) * 10 + x.count(12), 14);
    }

    private static void fault() {
        edge("13", "FAULT of the latest law(), orders() that read a TEXT: its place; NONE without.");
        RollsAgree x = new RollsAgree();
        due("none yet", x.fault(), NONE);
        law(x, "?");
        due("the first place", x.fault(), 0);
        law(x, " ".repeat(399) + "?");
        due("the last place", x.fault(), 399);
        orders(x, "pass;?");
        due("of orders", x.fault(), 5);
        law(x, "bars");
        due("without", x.fault(), NONE);
        orders(x, "talk 0 with 0");
        due("the end", x.fault(), 13);
        orders(x, "bury 9");
        due("without, though it can't be", x.fault(), NONE);
        law(x, "bars ?");
        x.row();
        put(x, "???");
        x.row();
        x.pass();
        due("others don't matter", x.fault(), 5);
        for (int i = 0; i < 5; i++) {
            law(x, "bars");
        }
        orders(x, "pass  ?");
        due("no room", law(x, "bars"), -5);
        due("so none was read", x.fault(), 6);
    }

    private static void stopped() {
        edge("14", "Which CLAUSE of the latest orders() could not be. NONE.");
        RollsAgree x = folk(1, 0);
        due("none yet", x.stopped(), NONE);
        orders(x, "bury 9");
        due("the first", x.stopped(), 0);
        orders(x, "pass;".repeat(11) + "bury 9");
        due("the last", x.stopped(), 11);
        orders(x, "pass times 20;bury 0 times 2;pass");
        due("at its second time", x.stopped(), 1);
        orders(x, "pass");
        due("none", x.stopped(), NONE);
        orders(x, "bury 9");
        orders(x, "bury 9 ?");
        due("none, as it was not run", x.stopped(), NONE);
        orders(x, "pass;bury 9");
        law(x, "?");
        x.pass();
        x.bury(9);
        due("others don't matter", x.stopped(), 1);
        orders(x, "");
        due("none of nothing", x.stopped(), NONE);
    }

    private static void force() {
        edge("15", "A LAW is in FORCE (NONE: none): which was. -2.");
        RollsAgree x = folk(1, 0, 1);
        due("none to none", x.force(NONE), NONE);
        due("it is no refusal", x.status(), 0);
        due("nor counted", x.count(8), 0);
        due("no such", x.force(0), -2);
        law(x, "takes 2");
        law(x, "takes 3");
        due("0", x.force(0), NONE);
        due("status", x.status(), 0);
        due("1", x.force(1), 0);
        for (int law : outside(2)) {
            if (law != NONE) {
                due("law " + law, x.force(law), -2);
            }
        }
        due("1 stays", x.asks(0, 1, 0, 0), 3);
        due("1 to 1", x.force(1), 1);
        due("to none", x.force(NONE), 1);
        due("none is in force", x.asks(0, 1, 0, 0), 1);
        due("refused", x.count(9), 10);
    }

    private static void asks() {
        edge("16", "Of a PERSON that talks with another one of a DAY what it TAKES (what 0), how it SWAYS (1), whether BARRED (2: 1, 0). NONE (itself, too).");
        RollsAgree x = folk(4, 1, 2);
        due("takes", x.asks(0, 1, 0, 0), 2);
        due("sways", x.asks(0, 1, 0, 1), 4);
        due("not barred", x.asks(0, 1, 0, 2), 0);
        due("of the last day", x.asks(0, 1, 3, 0), 0);
        for (int what : outside(3)) {
            due("what " + what, x.asks(0, 1, 0, what), NONE);
        }
        for (int what = 0; what < 3; what++) {
            due("itself", x.asks(0, 0, 0, what), NONE);
            due("itself, the last", x.asks(1, 1, 0, what), NONE);
            for (int no : outside(2)) {
                due("person " + no, x.asks(no, 0, 0, what), NONE);
                due("other " + no, x.asks(0, no, 0, what), NONE);
            }
            for (int day : outside(4)) {
                due("day " + day, x.asks(0, 1, day, what), NONE);
            }
        }
        due("status", x.status(), 0);
        under(x, "bars if person=1;takes 0-5;sways 10");
        due("the nearest", x.asks(0, 1, 0, 0) * 10 + x.asks(0, 1, 0, 1), 9);
        due("barred", x.asks(1, 0, 0, 2), 1);
    }

    private static void talk() {
        edge("17", "A TALK: how many MARKS became other ones.");
        due("none", folk(1, 2, 2).talk(0, 1, 0), 0);
        due("one", folk(1, 1, 2).talk(0, 1, 0), 1);
        due("two", under(folk(1, 1, 2), "takes 3").talk(0, 1, 0), 2);
        due("the higher one first", folk(1, 1, 2).talk(1, 0, 0), 1);
        for (int own = 0; own < 4; own++) {
            for (int its = 0; its < 4; its++) {
                due("of " + own + " and " + its, folk(1, own, its).talk(0, 1, 0), own == its ? 0 : 1);
                due("both, of " + own + " and " + its, under(folk(1, own, its), "takes its").talk(0, 1, 0), own == its ? 0 : 2);
                due("3, of " + own + " and " + its, under(folk(1, own, its), "takes 3").talk(0, 1, 0), (own == 3 ? 0 : 1) + (its == 3 ? 0 : 1));
            }
        }

        edge("17", "-1 (a DAY; one with itself); -2; -3.");
        RollsAgree x = folk(1, 0, 1, 2);
        for (int day : outside(4)) {
            due("day " + day, x.talk(0, 1, day), -1);
        }
        due("itself", x.talk(0, 0, 0), -1);
        due("itself, the last", x.talk(2, 2, 3), -1);
        due("itself, no such", x.talk(7, 7, 0), -1);
        for (int no : outside(3)) {
            due("one " + no, x.talk(no, 0, 0), -2);
            due("other " + no, x.talk(0, no, 0), -2);
        }
        x.bury(2);
        due("dead", x.talk(0, 2, 0), -3);
        due("dead, too", x.talk(2, 0, 0), -3);
        due("nothing changed", x.of(0, 3) * 100 + x.of(1, 3) * 10 + x.of(2, 3), 12);
        due("nothing but bury() can be undone", x.count(6), 1);
        under(x, "bars");
        due("barred", x.talk(0, 1, 0), -3);
    }

    private static void develop() {
        edge("18", "To DEVELOP: the MARK; 100: nobody ON it lives. -2; -3.");
        RollsAgree x = new RollsAgree();
        x.person(1, 1, marks(0, 3, 0, 0));
        x.person(1, 1, marks(0, 3, 1, 0));
        x.person(1, 1, marks(0, 0, 0, 0));
        x.roll(0, 3);
        x.roll(1, 3);
        x.roll(2, 3);
        x.roll(3, 4);
        due("0", x.develop(0), 0);
        due("3", x.develop(1), 3);
        due("it does not agree", x.develop(2), -3);
        due("it is done", x.develop(1), -3);
        for (int roll : outside(4)) {
            due("roll " + roll, x.develop(roll), -2);
        }
        x.bury(2);
        due("nobody lives", x.develop(3), 100);
        due("it is done", x.develop(3), -3);
        x.bury(0);
        due("who lives tells", x.develop(2), 1);
        due("all are done", x.count(3), 4);
    }

    private static void bury() {
        edge("19", "To BURY: how many live yet. -2; -3.");
        RollsAgree x = folk(1, 0, 0, 0, 0, 0, 0);
        for (int i = 5; i >= 0; i--) {
            due("bury " + i, x.bury(i), i);
            due("again", x.bury(i), -3);
        }
        for (int person : outside(6)) {
            due("person " + person, x.bury(person), -2);
        }
        due("none live", x.count(1), 0);
        due("six people", x.count(0), 6);
        RollsAgree y = folk(1, 0, 0);
        due("not there yet", y.bury(2), -2);
        y.person(1, 1, 1);
        due("there now", y.bury(2), 2);
    }

    private static void pass() {
        edge("20", "A WEEK: its number. -3.");
        RollsAgree x = new RollsAgree();
        due("1", x.pass(), 1);
        due("2", x.pass(), 2);
        x.terms(0, 998);
        due("999", x.pass(), 999);
        due("no more", x.pass(), -3);
        due("no more", x.pass(), -3);
        due("999 stays", x.count(14), 999);
        due("one can be undone", x.count(6), 1);
        x.undo();
        due("998", x.count(14), 998);
    }

    private static void undo() {
        edge("21", "The latest talk(), develop(), bury(), pass() (by ORDERS, too; 16 are kept) is undone: 0 .. 3.");
        RollsAgree x = under(folk(1, 1, 2), "takes its");
        x.roll(1, 3);
        x.talk(1, 0, 0);
        x.develop(0);
        x.bury(1);
        x.pass();
        due("pass", x.undo(), 3);
        due("week", x.count(14), 0);
        due("bury", x.undo(), 2);
        due("lives", x.of(1, 2), 1);
        due("develop", x.undo(), 1);
        due("not done", x.at(0, 2), 0);
        due("talk", x.undo(), 0);
        due("marks", x.of(0, 3) * 10 + x.of(1, 3), 12);
        due("none", x.undo(), -3);
        orders(x, "talk 0 with 1 of 0;develop 0;bury 0;pass");
        due("by orders: pass", x.undo(), 3);
        due("by orders: bury", x.undo(), 2);
        due("by orders: develop", x.undo(), 1);
        due("by orders: talk", x.undo(), 0);
        due("marks", x.of(0, 3) * 10 + x.of(1, 3), 12);
        RollsAgree six = under(new RollsAgree(), "takes 3-mark");
        for (int i = 0; i < 6; i++) {
            six.person(1, 1, marks(i % 4, (i + 1) % 4, (i + 2) % 4, (i + 3) % 4));
        }
        for (int i = 0; i < 16; i++) {
            six.talk(i % 6, (i + 1 + i / 6) % 6, i % 4);
        }
        for (int i = 0; i < 16; i++) {
            due("a talk", six.undo(), 0);
        }
        for (int i = 0; i < 24; i++) {
            due("mark " + i, six.of(i / 4, 3 + i % 4), (i / 4 + i % 4) % 4);
        }

        edge("21", "-3 there is none");
        due("none", x.undo(), -3);
        due("none at first", new RollsAgree().undo(), -3);
        x.talk(0, 0, 0);
        x.develop(9);
        x.bury(9);
        orders(x, "pass;bury 9");
        due("refused ones are none", x.undo(), -3);
        due("status", x.status(), -3);
    }

    private static void undoKept() {
        edge("21", "16 are kept");
        RollsAgree x = folk(1, 0);
        x.bury(0);
        for (int i = 0; i < 15; i++) {
            x.pass();
        }
        due("16", x.count(6), 16);
        for (int i = 0; i < 15; i++) {
            due("pass", x.undo(), 3);
        }
        due("the 16th", x.undo(), 2);
        due("lives", x.of(0, 2), 1);
        x.bury(0);
        for (int i = 0; i < 16; i++) {
            x.pass();
        }
        due("16 yet", x.count(6), 16);
        for (int i = 0; i < 16; i++) {
            due("pass", x.undo(), 3);
        }
        due("the 17th is not kept", x.undo(), -3);
        due("dead", x.of(0, 2), 0);
        due("week", x.count(14), 0);
        due("by orders", orders(x, "pass times 17"), 17);
        due("16", x.count(6), 16);
        for (int i = 16; i >= 1; i--) {
            x.undo();
            due("week", x.count(14), i);
        }
        due("the 17th", x.undo(), -3);
        due("week", x.count(14), 1);
    }

    private static void undoMixed() {
        edge("21", "16 are kept) is undone: 0 .. 3.");
        RollsAgree x = folk(1, 0, 0, 0, 0, 0, 0);
        for (int i = 0; i < 6; i++) {
            x.roll(i % 4, 1 << i);
        }
        int[] kinds = new int[20];
        for (int i = 0; i < 20; i++) {
            kinds[i] = i < 14 && i % 3 == 1 ? 1 : i >= 12 && i % 4 == 2 ? 2 : i % 5 == 0 ? 0 : 3;
            int answer = kinds[i] == 0 ? x.talk(0, 1, i % 4) : kinds[i] == 1 ? x.develop(i / 3) : kinds[i] == 2 ? x.bury(i / 4) : x.pass();
            due("deed " + i, Math.min(answer, 0), 0);
            due("kept " + i, x.count(6), Math.min(i + 1, 16));
        }
        for (int i = 19; i >= 4; i--) {
            due("undone " + i, x.undo(), kinds[i]);
        }
        due("all live", x.count(1), 6);
        due("0 was done too early to be undone", x.at(0, 2), 1);
        due("that alone", x.count(3), 1);
        due("as many weeks as too early", x.count(14), 2);
    }

    private static void undoBehindOthers() {
        edge("21", "(nothing that was ahead of a person(), row(), roll(), terms() that was not REFUSED can be undone)");
        RollsAgree x = folk(1, 0, 1);
        x.pass();
        x.person(10, 0, 0);
        x.row();
        x.roll(0, 0);
        x.terms(0, 1000);
        due("refused ones don't matter", x.count(6), 1);
        due("undone", x.undo(), 3);
        x.pass();
        x.person(1, 1, 1);
        due("person", x.undo(), -3);
        x.pass();
        put(x, "\u0001\u0001\u0001");
        x.row();
        due("row", x.undo(), -3);
        x.pass();
        put(x, "\u00ff");
        x.row();
        due("row of grain", x.undo(), -3);
        x.pass();
        x.roll(0, 1);
        due("roll", x.undo(), -3);
        x.pass();
        x.terms(1, 2);
        due("terms, though it stays the same", x.undo(), -3);
        due("weeks stay", x.count(14), 5);
        x.pass();
        law(x, "bars if week=0");
        x.force(0);
        x.told(0, 1, 0);
        x.forget();
        x.years(0, 1);
        x.image(0);
        x.force(9);
        x.back(1);
        orders(x, "bury 9");
        due("others don't matter", x.count(6), 1);
        x.terms(2, 1);
        x.bury(0);
        due("what was behind it", x.undo(), 2);
        due("no more", x.undo(), -3);
        due("week", x.count(14), 6);
        RollsAgree full = folk(1, 0, 0, 0, 0, 0, 0);
        for (int i = 0; i < 8; i++) {
            full.roll(0, 1);
        }
        full.pass();
        due("no room for a person", full.person(1, 1, 1), -5);
        due("it does not matter", full.count(6), 1);
        due("no room for a roll", full.roll(0, 1), -5);
        due("it does not matter", full.count(6), 1);
        due("undone", full.undo(), 3);
    }

    private static void soonest() {
        edge("22", "SOONEST: how many TALKS (i NONE), the i-th. NONE (it can't be).");
        RollsAgree x = folk(1, 0, 1, 2);
        x.roll(0, 7);
        x.roll(1, 7);
        due("two", x.soonest(0, NONE), 2);
        due("the first", x.soonest(0, 0), 2);
        due("the second", x.soonest(0, 1), 12);
        for (int i : outside(2)) {
            if (i != NONE) {
                due("i " + i, x.soonest(0, i), NONE);
            }
        }
        due("none needed", x.soonest(1, NONE), 0);
        due("so no first", x.soonest(1, 0), NONE);
        for (int roll : outside(2)) {
            due("roll " + roll, x.soonest(roll, NONE), NONE);
            due("roll " + roll + ", the first", x.soonest(roll, 0), NONE);
        }
        under(x, "bars");
        due("it can't be", x.soonest(0, NONE), NONE);
        due("nor its first", x.soonest(0, 0), NONE);
        due("one that agrees can", x.soonest(1, NONE), 0);
        due("status", x.status(), 0);
    }

    private static void ends() {
        edge("23", "ENDS: MARKS, as bits. NONE.");
        RollsAgree x = folk(1, 0, 3);
        x.roll(0, 3);
        x.roll(0, 1);
        x.roll(1, 3);
        due("3", x.ends(0), 8);
        due("0 and 3", x.ends(1), 9);
        due("0", x.ends(2), 1);
        for (int roll : outside(3)) {
            due("roll " + roll, x.ends(roll), NONE);
        }
        under(x, "bars");
        due("on none", x.ends(0), 0);
        due("now", x.ends(1), 1);
        due("only on paper", x.of(0, 3), 0);
    }

    private static void house() {
        edge("24", "The HOUSE: how many (what 0), who, as bits (1). NONE (it can't be).");
        RollsAgree x = folk(1, 0, 1, 0, 0, 0, 1);
        x.roll(0, 33);
        x.roll(0, 63);
        x.roll(1, 63);
        due("two", x.house(0, 0), 2);
        due("0 with 1 rather than 0 with 5: the lower bits", x.house(0, 1), 3);
        x.talk(1, 2, 0);
        due("the first and the last", x.house(0, 1), 33);
        x.undo();
        due("five", x.house(1, 0), 5);
        due("all but 1", x.house(1, 1), 61);
        due("nobody", x.house(2, 0), 0);
        due("nobody's bits", x.house(2, 1), 0);
        for (int what : outside(2)) {
            due("what " + what, x.house(0, what), NONE);
            due("what " + what + " of one that agrees", x.house(2, what), NONE);
        }
        for (int roll : outside(3)) {
            due("roll " + roll, x.house(roll, 0), NONE);
            due("roll " + roll + ", who", x.house(roll, 1), NONE);
        }
        RollsAgree six = folk(1, 1, 2, 3, 1, 2, 0);
        six.roll(0, 63);
        due("all six", six.house(0, 0), 6);
        due("all six, who", six.house(0, 1), 63);
        under(x, "bars");
        due("it can't be", x.house(0, 0), NONE);
        due("nor who", x.house(0, 1), NONE);
        due("one that agrees can", x.house(2, 0), 0);
    }

    private static void givings() {
        edge("25", "GIVINGS: how many (what 0), the MARK then (1 and four times a PERSON and a DAY). NONE (no such one).");
        RollsAgree x = new RollsAgree();
        due("nobody gives", x.givings(0), 0);
        due("nobody's mark", x.givings(1), NONE);
        for (int i = 0; i < 5; i++) {
            x.person(1, 1, marks(3, 0, 0, 1));
        }
        due("the last there is", x.givings(20), 1);
        due("one there is not", x.givings(21), NONE);
        x.person(1, 1, marks(0, 0, 0, 2));
        x.roll(0, 63);
        x.roll(3, 63);
        due("the first", x.givings(1), 3);
        due("the first of the last", x.givings(21), 3);
        due("the last", x.givings(24), 1);
        due("both give of the last one", x.givings(0), 2);
        for (int what : outside(25)) {
            due("what " + what, x.givings(what), NONE);
        }
        due("only on paper", x.of(5, 3), 0);
        due("status", x.status(), 0);
        RollsAgree one = new RollsAgree();
        one.person(1, 1, marks(0, 1, 2, 3));
        for (int day = 0; day < 4; day++) {
            due("the only one's of day " + day, one.givings(1 + day), day);
            due("a second one's", one.givings(5 + day), NONE);
        }
        for (int i = 0; i < 8; i++) {
            one.roll(i % 4, 1);
        }
        due("with no room for rolls", one.givings(4), 3);
    }

    private static void told() {
        edge("26", "A TALK is TOLD: how many are. -1 (a DAY; one with itself); -2; -5.");
        RollsAgree x = folk(1, 0, 0, 0);
        for (int day : outside(4)) {
            due("day " + day, x.told(0, 1, day), -1);
        }
        due("itself", x.told(0, 0, 0), -1);
        due("itself, no such", x.told(3, 3, 0), -1);
        for (int no : outside(3)) {
            due("one " + no, x.told(no, 0, 0), -2);
            due("other " + no, x.told(0, no, 0), -2);
        }
        due("none yet", x.count(4), 0);
        x.bury(0);
        under(x, "bars");
        due("of a dead, barred one", x.told(0, 1, 3), 1);
        for (int i = 2; i <= 8; i++) {
            due("told " + i, x.told(2, 1, 0), i);
        }
        due("no room", x.told(0, 1, 0), -5);
        due("nor of another day", x.told(0, 1, 2), -5);
        due("eight stay", x.count(4), 8);
        due("no such, and no room", x.told(0, 3, 0), -2);
        due("itself, and no room", x.told(0, 0, 0), -1);
    }

    private static void forget() {
        edge("27", "TOLD is nothing then: how many there were.");
        RollsAgree x = folk(1, 0, 0);
        due("none", x.forget(), 0);
        x.told(0, 1, 0);
        due("one", x.forget(), 1);
        due("none", x.forget(), 0);
        due("no row but as now", x.were(0, NONE, 0), 1);
        for (int i = 0; i < 9; i++) {
            x.told(0, 1, 0);
        }
        due("status", x.status(), -5);
        due("eight", x.forget(), 8);
        due("none is left", x.count(4), 0);
        due("it tells no status", x.status(), -5);
        due("from one on", x.told(0, 1, 0), 1);
        RollsAgree y = under(folk(1, 1, 2), "takes its");
        y.told(0, 1, 0);
        y.told(0, 1, 0);
        due("twice: as now", y.were(0, 0, 0), 1);
        y.forget();
        y.told(0, 1, 0);
        due("once: crosswise", y.were(0, 0, 0), 2);
    }

    private static void were() {
        edge("28", "WERE: how many rows (i NONE), of the i-th the MARK of a PERSON. NONE.");
        RollsAgree x = folk(1, 2, 2, 2);
        x.told(0, 1, 0);
        due("four", x.were(0, NONE, 0), 4);
        due("four, whoever is asked of", x.were(0, NONE, 9) + x.were(0, NONE, -9), 8);
        for (int i = 0; i < 4; i++) {
            due("row " + i, x.were(0, i, 0), i);
        }
        for (int i : outside(4)) {
            if (i != NONE) {
                due("row " + i, x.were(0, i, 0), NONE);
            }
        }
        for (int person : outside(3)) {
            due("person " + person, x.were(0, 0, person), NONE);
        }
        for (int day : outside(4)) {
            due("day " + day, x.were(day, NONE, 0), NONE);
            due("day " + day + ", row 0", x.were(day, 0, 0), NONE);
        }
        x.told(1, 2, 3);
        due("the last day", x.were(3, NONE, 0), 4);
        x.told(1, 2, 0);
        x.told(0, 2, 0);
        due("two had any", x.were(0, NONE, 0), 16);
        due("the last row", x.were(0, 15, 0) * 100 + x.were(0, 15, 1) * 10 + x.were(0, 15, 2), 332);
        due("none behind it", x.were(0, 16, 0), NONE);
        due("nobody: one row", new RollsAgree().were(0, NONE, 0), 1);
        due("nobody in it", new RollsAgree().were(0, 0, 0), NONE);
        RollsAgree y = folk(1, 1, 2);
        y.told(0, 1, 0);
        due("no rows", y.were(0, NONE, 0), 0);
        due("no first", y.were(0, 0, 0), NONE);
    }

    private static void ask() {
        edge("29", "To ASK: the PERSON (what 0), how many rows are left at most (1). NONE (none; nobody).");
        RollsAgree x = folk(1, 2, 2);
        due("0", x.ask(0, 0), 0);
        due("one is left", x.ask(0, 1), 1);
        for (int what : outside(2)) {
            due("what " + what, x.ask(0, what), NONE);
        }
        for (int day : outside(4)) {
            due("day " + day, x.ask(day, 0), NONE);
            due("day " + day + ", left", x.ask(day, 1), NONE);
        }
        due("the last day", x.ask(3, 1), 1);
        for (int mark = 0; mark < 4; mark++) {
            due("one is left of all at " + mark, folk(1, mark, mark).ask(0, 1), 1);
        }
        RollsAgree y = folk(1, 1, 2);
        y.told(0, 1, 0);
        due("no row", y.ask(0, 0), NONE);
        due("none is left", y.ask(0, 1), NONE);
        due("nobody", new RollsAgree().ask(0, 0), NONE);
        due("nobody, none left", new RollsAgree().ask(0, 1), NONE);
        RollsAgree all = under(folk(1, 3, 3, 3, 3, 3, 3), "takes 3");
        all.told(0, 1, 0);
        all.told(3, 2, 0);
        all.told(4, 5, 0);
        due("all rows: the lowest", all.ask(0, 0), 0);
        due("a quarter is left", all.ask(0, 1), 1024);
    }

    private static void chatter() {
        edge("30", "CHATTER: in how many rounds (person NONE; the last, in which nothing changes, too), the MARK of a PERSON then. NONE (not in 50).");
        RollsAgree x = folk(1, 0, 1, 2);
        due("two, the last too", x.chatter(0, NONE), 2);
        due("the last alone", x.chatter(3, NONE), 1);
        due("the marks", x.chatter(0, 0) * 100 + x.chatter(0, 1) * 10 + x.chatter(0, 2), 222);
        for (int person : outside(3)) {
            if (person != NONE) {
                due("person " + person, x.chatter(0, person), NONE);
            }
        }
        for (int day : outside(4)) {
            due("day " + day, x.chatter(day, NONE), NONE);
            due("day " + day + ", person 0", x.chatter(day, 0), NONE);
        }
        due("50", clock(1).chatter(0, NONE), 50);
        due("not in 50", clock(0).chatter(0, NONE), NONE);
        due("nor a mark", clock(0).chatter(0, 0), NONE);
        due("nobody", new RollsAgree().chatter(0, NONE), 1);
        due("nobody's mark", new RollsAgree().chatter(0, 0), NONE);
        due("nobody, of no day", new RollsAgree().chatter(4, NONE), NONE);
        due("only on paper", x.of(0, 3), 0);
    }

    private static void chance() {
        edge("31", "The CHANCE for a ROLL behind n WEEKS 0 .. 99. NONE.");
        RollsAgree x = folk(1, 0, 1);
        x.roll(0, 3);
        x.roll(1, 3);
        due("0 weeks", x.chance(0, 0), 0);
        due("0 weeks, agreeing", x.chance(1, 0), 1000000);
        due("1 week", x.chance(0, 1), 360000);
        due("99 weeks, agreeing", x.chance(1, 99), 1000000);
        due("99 weeks", x.chance(0, 99) > 999990 ? 1 : 0, 1);
        for (int n : outside(100)) {
            due("weeks " + n, x.chance(1, n), NONE);
        }
        for (int roll : outside(2)) {
            due("roll " + roll, x.chance(roll, 0), NONE);
        }
        x.terms(0, 999);
        due("beyond week 999, too", x.chance(0, 1), 360000);
        due("nobody died", x.count(1), 2);
        due("week", x.count(14), 999);
    }

    private static void years() {
        edge("32", "YEARS, kept as the latest: how many MARKS became other ones in them.");
        RollsAgree x = under(folk(1, 0, 0, 0), "takes 3");
        due("two in the first", x.years(0, 1), 2);
        due("kept", x.drawn(1, 1), 3);
        due("100 weeks", x.years(0, 100), 12);
        due("kept", x.drawn(0, 0), 3);
        due("two in the first again", x.years(0, 1), 2);
        due("the latest alone", x.drawn(0, 0), 0);
        due("none", under(folk(1, 3, 3), "takes mark").years(0, 100), 0);

        edge("32", "-1; -3 there is nobody.");
        RollsAgree y = new RollsAgree();
        due("nobody", y.years(0, 1), -3);
        due("a bad seed, nobody", y.years(1000001, 1), -1);
        due("bad weeks, nobody", y.years(0, 101), -1);
        due("no weeks, nobody", y.years(0, 0), -1);
        due("none are kept", y.drawn(0, 0), NONE);
        y.person(1, 1, marks(1, 0, 0, 0));
        due("one", y.years(1000000, 100), 0);
        due("status", y.status(), 0);
        due("all dead is not nobody", y.bury(0) + y.years(0, 100), 0);
        x.terms(2, 5);
        due("refused", x.years(-1, 1), -1);
        due("refused ones are not kept", x.drawn(1, 1), 3);
    }

    private static void drawn() {
        edge("33", "Behind the latest YEARS the MARK of a PERSON of a DAY. NONE.");
        RollsAgree x = folk(1, 1, 2);
        due("none were", x.drawn(0, 0), NONE);
        x.years(0, 1);
        due("the first", x.drawn(0, 0), 1);
        due("the last", x.drawn(1, 3), 0);
        for (int person : outside(2)) {
            due("person " + person, x.drawn(person, 0), NONE);
        }
        for (int day : outside(4)) {
            due("day " + day, x.drawn(0, day), NONE);
        }
        x.talk(0, 1, 0);
        due("as it was behind them", x.drawn(0, 0), 1);
        x.person(1, 1, 255);
        due("she was not in them", x.drawn(2, 0), NONE);
        x.years(0, 1);
        due("now she was", x.drawn(2, 3), 3);
        due("status", x.status(), 0);
    }

    private static void image() {
        edge("34", "IMAGE k is kept: 0; -1.");
        RollsAgree x = folk(1, 0);
        for (int k : outside(2)) {
            due("image " + k, x.image(k), -1);
        }
        due("none is kept", x.back(0) * 10 + x.back(1), -22);
        due("1", x.image(1), 0);
        due("0 is not", x.back(0), -2);
        due("1 is", x.back(1), 0);
        due("0", x.image(0), 0);
        x.pass();
        due("anew", x.image(0), 0);
        x.back(1);
        due("week", x.count(14), 0);
        x.back(0);
        due("week", x.count(14), 1);
    }

    private static void back() {
        edge("35", "BACK to IMAGE k: 0. -1; -2 it was not kept.");
        RollsAgree x = folk(1, 0, 1);
        for (int k : outside(2)) {
            due("back " + k, x.back(k), -1);
        }
        due("not kept", x.back(0), -2);
        due("not kept, too", x.back(1), -2);
        x.pass();
        x.image(0);
        x.bury(0);
        due("1 is not kept", x.back(1), -2);
        due("refused ones change nothing", x.count(1) * 10 + x.count(6), 12);
        due("bad ones neither", x.back(2) * 0 + x.count(1) * 10 + x.count(6), 12);
        due("0", x.back(0), 0);
        due("status", x.status(), 0);
        due("lives", x.of(0, 2), 1);
        due("again", x.back(0), 0);
    }

    private static void count() {
        edge("36", "13 the LAW in FORCE, 14 .. 16 TERMS 0 .. 2. NONE for others.");
        RollsAgree x = folk(1, 0, 0, 0);
        due("no law", x.count(13), NONE);
        law(x, "bars");
        x.force(0);
        x.terms(0, 999);
        x.terms(1, 10);
        x.terms(2, 9);
        due("13", x.count(13), 0);
        due("14", x.count(14), 999);
        due("15", x.count(15), 10);
        due("16", x.count(16), 9);
        for (int what : outside(17)) {
            due("count(" + what + ")", x.count(what), NONE);
        }
        due("status", x.status(), 0);

        edge("36", "0 PEOPLE, 1 how many live, 2 ROLLS, 3 how many are DONE, 4 TOLD, 5 LAWS, 6 how many can be undone, 7 bytes of the TAPE");
        RollsAgree y = folk(1, 0, 0, 0, 0, 0, 0);
        for (int i = 0; i < 9; i++) {
            y.roll(0, 63);
            y.told(0, 1, 0);
            law(y, "bars");
        }
        for (int i = 0; i < 8; i++) {
            y.develop(i);
        }
        for (int i = 0; i < 6; i++) {
            y.bury(i);
        }
        for (int i = 0; i < 20; i++) {
            y.feed(0, 0, 0, 0, 0);
            y.pass();
        }
        int[] full = {6, 0, 8, 8, 8, 6, 16, 400};
        for (int what = 0; what < full.length; what++) {
            due("full: count(" + what + ")", y.count(what), full[what]);
        }
    }

    private static void countRefusals() {
        edge("36", "8 .. 12 how many calls were REFUSED by -1, -2, -3, -5, -6 (IMAGES do not keep that)");
        RollsAgree x = folk(1, 0, 0, 0, 0, 0, 0);
        x.image(0);
        for (int i = 0; i < 5; i++) {
            x.person(10, 0, 0);
        }
        for (int i = 0; i < 4; i++) {
            x.bury(6);
        }
        for (int i = 0; i < 3; i++) {
            x.undo();
        }
        x.person(1, 1, 1);
        x.person(1, 1, 1);
        x.row();
        int[] due = {5, 4, 3, 2, 1};
        for (int i = 0; i < due.length; i++) {
            due("count(" + (8 + i) + ")", x.count(8 + i), due[i]);
        }
        x.back(0);
        for (int i = 0; i < due.length; i++) {
            due("behind back: count(" + (8 + i) + ")", x.count(8 + i), due[i]);
        }
        orders(x, "bury 9");
        due("what is refused within orders is not", x.count(9), 4);
        due("the orders are", x.count(10), 4);
        x.of(9, 9);
        x.end(-1);
        x.asks(0, 0, 0, 0);
        x.soonest(9, 9);
        x.force(NONE);
        due("NONE is no refusal", x.count(8), 5);
    }

    private static void status() {
        edge("37", "What the latest call of person, roll, terms, row, law, orders, force, talk, develop, bury, pass, undo, told, years, image, back was REFUSED by;");
        RollsAgree x = folk(1, 0, 1, 1);
        x.roll(0, 3);
        x.bury(2);
        x.terms(0, 999);
        int[] due = {-1, -1, -1, -6, -6, -6, -2, -1, -3, -3, -3, -3, -2, -1, -1, -1};
        int[] fine = {3, 1, 999, 1, 0, 0, 0, 1, 1, 3, 1, 3, 1, 0, 0, 0};
        for (int i = 0; i < due.length; i++) {
            int other = (i + 1) % due.length;
            refused(x, other);
            due("refused ahead of " + i, x.status(), due[other]);
            due("fine " + i, fine(x, i), fine[i]);
            due("status of fine " + i, x.status(), 0);
        }
        for (int i = 0; i < due.length; i++) {
            x.image(1);
            due("call " + i, refused(x, i), due[i]);
            due("status of " + i, x.status(), due[i]);
            tellNoStatus(x);
            due("it stays", x.status(), due[i]);
        }

        edge("37", "0 if it was not, or ahead of any.");
        RollsAgree y = new RollsAgree();
        due("ahead of any", y.status(), 0);
        tellNoStatus(y);
        due("ahead of any of these", y.status(), 0);
        y.bury(0);
        due("refused", y.status(), -2);
        y.pass();
        due("not", y.status(), 0);
        due("-5, too", law(y, "bars") + law(y, "bars") + law(y, "bars") + law(y, "bars") + law(y, "bars") + law(y, "bars"), 15);
        law(y, "bars");
        due("-5", y.status(), -5);
        y.force(NONE);
        due("none that was in force is not", y.status(), 0);
    }

    private static void tellNoStatus(RollsAgree x) {
        int[] answers = {x.of(9, 9), x.at(9, 9), x.end(-1), x.grain(), x.fault(), x.stopped(), x.asks(0, 0, 0, 0), x.soonest(9, 9),
            x.ends(9), x.house(9, 9), x.givings(-1), x.forget(), x.were(9, 9, 9), x.ask(9, 9), x.chatter(9, 9), x.chance(9, 9),
            x.drawn(9, 9), x.count(99), x.feed(0, 0, 0, 0, 0), x.end(0)};
        due("the tape has", answers[18], 20);
    }

    private static int refused(RollsAgree x, int i) {
        switch (i) {
            case 0:
                return x.person(-1, 0, 0);
            case 1:
                return x.roll(0, 0);
            case 2:
                return x.terms(3, 0);
            case 3:
                return x.row();
            case 4:
                return x.law();
            case 5:
                return x.orders();
            case 6:
                return x.force(9);
            case 7:
                return x.talk(0, 0, 0);
            case 8:
                return x.develop(0);
            case 9:
                return x.bury(2);
            case 10:
                x.terms(0, 999);
                return x.pass();
            case 11:
                x.terms(0, 999);
                return x.undo();
            case 12:
                return x.told(0, 9, 0);
            case 13:
                return x.years(0, 0);
            case 14:
                return x.image(2);
            default:
                return x.back(2);
        }
    }

    private static int fine(RollsAgree x, int i) {
        switch (i) {
            case 0:
                return x.person(1, 1, 1);
            case 1:
                return x.roll(1, 1);
            case 2:
                return x.terms(0, 1);
            case 3:
                put(x, "\u0001\u0001\u0001");
                return x.row();
            case 4:
                return law(x, "takes mark");
            case 5:
                return orders(x, "pass if 1=2");
            case 6:
                x.force(0);
                return x.force(NONE);
            case 7:
                return x.talk(0, 1, 0);
            case 8:
                return x.develop(0);
            case 9:
                return x.bury(4);
            case 10:
                x.terms(0, 0);
                return x.pass();
            case 11:
                x.pass();
                return x.undo();
            case 12:
                return x.told(0, 1, 0);
            case 13:
                return x.years(0, 1) * 0;
            case 14:
                return x.image(1);
            default:
                x.image(0);
                return x.back(0);
        }
    }
}
