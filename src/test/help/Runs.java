/** What the tests by hand share: answers held against what is due, texts for the tape, small worlds. */
abstract class Runs {
    static final int NONE = RollsAgree.NONE;
    static final int FAR = Integer.MAX_VALUE;
    static final int FAR_BELOW = Integer.MIN_VALUE;
    static int wrong;
    static int asked;
    /** What is held just now: it stands ahead of each answer that is not as due. */
    static String promise = "";

    static void due(String what, int got, int want) {
        asked++;
        if (got != want) {
            wrong++;
            System.out.println(promise + ": " + what + " answered " + got + ", due is " + want);
        }
    }

    static void close() {
        System.out.println(wrong == 0 ? asked + " answers, all as due" : wrong + " answers are not as due");
        if (wrong != 0) {
            System.exit(1);
        }
    }

    static int marks(int day0, int day1, int day2, int day3) {
        return 64 * day0 + 16 * day1 + 4 * day2 + day3;
    }

    /** People all as firm, aged as their number, with these marks of day 0 and 0 of the others. */
    static RollsAgree folk(int firm, int... marksOfDay0) {
        RollsAgree x = new RollsAgree();
        for (int i = 0; i < marksOfDay0.length; i++) {
            x.person(firm, i, marks(marksOfDay0[i], 0, 0, 0));
        }
        return x;
    }

    static void put(RollsAgree x, String text) {
        int before = x.count(7);
        for (int i = 0; i < text.length(); i += 20) {
            int[] n = new int[5];
            for (int k = 0; k < 20; k++) {
                n[k / 4] = n[k / 4] << 8 | (i + k < text.length() ? text.charAt(i + k) : 0);
            }
            x.feed(n[0], n[1], n[2], n[3], n[4]);
        }
        x.end(before + text.length());
    }

    static int law(RollsAgree x, String text) {
        put(x, text);
        return x.law();
    }

    static int orders(RollsAgree x, String text) {
        put(x, text);
        return x.orders();
    }

    static RollsAgree under(RollsAgree x, String text) {
        int law = law(x, text);
        due("law " + text, Math.min(law, 0), 0);
        x.force(law);
        return x;
    }

    static void faulty(boolean areOrders, String text, int place) {
        RollsAgree x = new RollsAgree();
        String name = (areOrders ? "orders " : "law ") + text;
        due(name, areOrders ? orders(x, text) : law(x, text), -6);
        due("fault of " + name, x.fault(), place);
        due("status of " + name, x.status(), -6);
        due("tape behind " + name, x.count(7), 0);
        due("refused by " + name, x.count(12), 1);
        due("laws behind " + name, x.count(5), 0);
        due("stopped behind " + name, x.stopped(), NONE);
    }

    static void lawful(String text) {
        RollsAgree x = new RollsAgree();
        due("law " + text, law(x, text), 0);
        due("fault of law " + text, x.fault(), NONE);
        due("tape behind law " + text, x.count(7), 0);
    }

    /** A law by which 0, 1, 2 count rounds of chatter up to 48; then 3 goes up by one a round. */
    static RollsAgree clock(int last) {
        return under(folk(5, 0, 0, 0, last), "takes mark;takes [mark+1]%4 if person=0 and other=1 and its<3;"
                + "takes mark+1 if person=1 and other=0 and its=3 and mark<3;"
                + "takes 0 if person=1 and other=2 and mark=3 and its<3;"
                + "takes mark+1 if person>1 and other=1 and its=3");
    }
}
