import java.util.ArrayDeque;
import java.util.ArrayList;
import java.util.Arrays;
import java.util.Comparator;
import java.util.HashMap;
import java.util.HashSet;
import java.util.List;
import java.util.Map;
import java.util.Random;
import java.util.Set;
import java.util.TreeMap;

/**
 * Long runs of drawn calls, each answer held against a second, slow program that shares no code with
 * the class. It is by the same hand and reads the document the same way (see NOTES.md), so it finds
 * slips, not misreadings. The draws are the same each time.
 */
public final class ModelRuns {
    private static final int RUNS = 1500;
    private static final int CALLS = 500;
    private static int wrong;
    private static final Map<String, int[]> seen = new TreeMap<>();

    public static void main(String[] args) {
        int runs = args.length > 0 ? Integer.parseInt(args[0]) : RUNS;
        long first = args.length > 1 ? Long.parseLong(args[1]) : 1;
        for (long seed = first; seed < first + runs && wrong < 20; seed++) {
            new Run(seed).go();
        }
        if (args.length > 2) {
            seen.forEach((k, v) -> System.out.println(k + " calls " + v[0] + ", below 0 " + v[1]));
        }
        System.out.println(wrong == 0 ? "all answers are as due" : wrong + " answers are not as due");
        if (wrong != 0) {
            System.exit(1);
        }
    }

    /** One object and the model beside it. */
    private static final class Run {
        final long seed;
        final Random r;
        final RollsAgree x = new RollsAgree();
        final Model m = new Model();
        final StringBuilder told = new StringBuilder();
        int calls;
        boolean ok = true;

        Run(long seed) {
            this.seed = seed;
            r = new Random(seed * 7919);
        }

        void go() {
            if (r.nextInt(8) > 0) {
                int people = 1 + r.nextInt(6);
                for (int i = 0; i < people; i++) {
                    person();
                }
                int rolls = r.nextInt(5);
                for (int i = 0; i < rolls; i++) {
                    roll();
                }
                if (r.nextInt(4) > 0) {
                    law();
                    force();
                }
            }
            while (ok && calls < CALLS) {
                any();
            }
        }

        void due(String call, int got, int want) {
            calls++;
            int[] s = seen.computeIfAbsent(call.substring(0, call.indexOf('(')), k -> new int[2]);
            s[0]++;
            s[1] += want < 0 ? 1 : 0;
            told.append(call).append(" -> ").append(want).append('\n');
            if (got != want) {
                ok = false;
                wrong++;
                System.out.println("seed " + seed + ": " + call + " answered " + got + ", due is " + want);
                if (wrong == 1) {
                    System.out.println(told);
                }
            }
        }

        int odd(int usual) {
            if (r.nextInt(25) > 0) {
                return usual;
            }
            int[] odds = {-1, -2, usual + 1, -usual, Integer.MIN_VALUE, Integer.MAX_VALUE, 1 << 30, 6, 8, 100, 999, 1000};
            return odds[r.nextInt(odds.length)];
        }

        int who() {
            return odd(r.nextInt(Math.max(1, m.people.size())));
        }

        int day() {
            return odd(r.nextInt(4));
        }

        int which() {
            return odd(r.nextInt(Math.max(1, m.rolls.size())));
        }

        void person() {
            int f = odd(r.nextInt(10));
            int a = odd(r.nextInt(100));
            int k = odd(r.nextInt(256));
            due("person(" + f + "," + a + "," + k + ")", x.person(f, a, k), m.person(f, a, k));
        }

        void roll() {
            int d = day();
            int on = odd(r.nextInt(1 << m.people.size()));
            due("roll(" + d + "," + on + ")", x.roll(d, on), m.roll(d, on));
        }

        void text(String text) {
            int length = text.length();
            for (int i = 0; i < length; i += 20) {
                int[] n = new int[5];
                for (int k = 0; k < 20; k++) {
                    int b = i + k < length ? text.charAt(i + k) : r.nextInt(256);
                    n[k / 4] = n[k / 4] << 8 | b;
                }
                due("feed(" + n[0] + "," + n[1] + "," + n[2] + "," + n[3] + "," + n[4] + ")",
                        x.feed(n[0], n[1], n[2], n[3], n[4]), m.feed(n[0], n[1], n[2], n[3], n[4]));
            }
            int e = odd(Math.min(length, 400));
            due("end(" + e + ")", x.end(e), m.end(e));
        }

        void law() {
            String t = new Writer(r, false).text();
            told.append("# ").append(t).append('\n');
            text(t);
            due("law()", x.law(), m.law());
            due("fault()", x.fault(), m.fault);
        }

        void orders() {
            String t = new Writer(r, true).text();
            told.append("# ").append(t).append('\n');
            text(t);
            due("orders()", x.orders(), m.orders());
            due("fault()", x.fault(), m.fault);
            due("stopped()", x.stopped(), m.stopped);
        }

        void force() {
            int l = odd(r.nextInt(Math.max(1, m.laws.size()) + 1) - (r.nextInt(3) == 0 ? 1 : 0));
            due("force(" + l + ")", x.force(l), m.force(l));
        }

        void row() {
            StringBuilder b = new StringBuilder();
            int n = r.nextInt(22);
            for (int i = 0; i < n; i++) {
                int k = i % 3;
                b.append((char) (k == 0 ? r.nextInt(12) : k == 1 ? r.nextInt(110) : r.nextInt(256)));
            }
            text(b.toString());
            due("row()", x.row(), m.row());
            due("grain()", x.grain(), m.grain);
        }

        void any() {
            switch (r.nextInt(48)) {
                case 0:
                    if (r.nextInt(5) == 0) {
                        person();
                    }
                    break;
                case 1: {
                    int p = who();
                    int w = odd(r.nextInt(7));
                    due("of(" + p + "," + w + ")", x.of(p, w), m.of(p, w));
                    break;
                }
                case 2:
                    if (r.nextInt(4) == 0) {
                        roll();
                    }
                    break;
                case 3: {
                    int p = which();
                    int w = odd(r.nextInt(4));
                    due("at(" + p + "," + w + ")", x.at(p, w), m.at(p, w));
                    break;
                }
                case 4:
                    if (r.nextInt(3) == 0) {
                        int w = odd(r.nextInt(3));
                        int v = odd(w == 0 && r.nextInt(3) == 0 ? 985 + r.nextInt(17) : r.nextInt(11));
                        due("terms(" + w + "," + v + ")", x.terms(w, v), m.terms(w, v));
                    }
                    break;
                case 5:
                    if (r.nextInt(6) == 0) {
                        row();
                    }
                    break;
                case 6:
                    if (r.nextInt(2) == 0) {
                        law();
                    }
                    break;
                case 7:
                case 8:
                    orders();
                    break;
                case 9:
                    force();
                    break;
                case 10:
                case 11:
                case 12: {
                    int p = who();
                    int o = who();
                    int d = day();
                    int w = odd(r.nextInt(3));
                    due("asks(" + p + "," + o + "," + d + "," + w + ")", x.asks(p, o, d, w), m.asks(p, o, d, w));
                    break;
                }
                case 13:
                case 14:
                case 15:
                case 16:
                case 17: {
                    int p = who();
                    int o = who();
                    int d = day();
                    due("talk(" + p + "," + o + "," + d + ")", x.talk(p, o, d), m.talk(p, o, d));
                    break;
                }
                case 18:
                case 19: {
                    int p = which();
                    due("develop(" + p + ")", x.develop(p), m.develop(p));
                    break;
                }
                case 20:
                    if (r.nextInt(3) == 0) {
                        int p = who();
                        due("bury(" + p + ")", x.bury(p), m.bury(p));
                    }
                    break;
                case 21:
                    due("pass()", x.pass(), m.pass());
                    break;
                case 22:
                case 23:
                    due("undo()", x.undo(), m.undo());
                    break;
                case 24:
                case 25: {
                    int p = which();
                    int i = odd(r.nextBoolean() ? -1 : r.nextInt(4));
                    due("soonest(" + p + "," + i + ")", x.soonest(p, i), m.soonest(p, i));
                    break;
                }
                case 26: {
                    int p = which();
                    due("ends(" + p + ")", x.ends(p), m.ends(p));
                    break;
                }
                case 27: {
                    int p = which();
                    int w = odd(r.nextInt(2));
                    due("house(" + p + "," + w + ")", x.house(p, w), m.house(p, w));
                    break;
                }
                case 28:
                case 29: {
                    int w = odd(r.nextInt(3) == 0 ? 0 : 1 + r.nextInt(4 * m.people.size() + 1));
                    due("givings(" + w + ")", x.givings(w), m.givings(w));
                    break;
                }
                case 30:
                case 31: {
                    int p = who();
                    int o = who();
                    int d = r.nextInt(3) > 0 ? 0 : day();
                    due("told(" + p + "," + o + "," + d + ")", x.told(p, o, d), m.told(p, o, d));
                    break;
                }
                case 32:
                    if (r.nextInt(5) == 0) {
                        due("forget()", x.forget(), m.forget());
                    }
                    break;
                case 33:
                case 34: {
                    int d = r.nextInt(2) > 0 ? 0 : day();
                    int i = odd(r.nextBoolean() ? -1 : r.nextInt(6));
                    int p = who();
                    due("were(" + d + "," + i + "," + p + ")", x.were(d, i, p), m.were(d, i, p));
                    break;
                }
                case 35: {
                    int d = r.nextInt(2) > 0 ? 0 : day();
                    int w = odd(r.nextInt(2));
                    due("ask(" + d + "," + w + ")", x.ask(d, w), m.ask(d, w));
                    break;
                }
                case 36: {
                    int d = day();
                    int p = r.nextInt(2) == 0 ? -1 : who();
                    due("chatter(" + d + "," + p + ")", x.chatter(d, p), m.chatter(d, p));
                    break;
                }
                case 37:
                case 38: {
                    int p = which();
                    int n = odd(r.nextInt(3) == 0 ? r.nextInt(101) : r.nextInt(6));
                    due("chance(" + p + "," + n + ")", x.chance(p, n), m.chance(p, n));
                    break;
                }
                case 39: {
                    int s = odd(r.nextInt(1000001));
                    int n = odd(1 + r.nextInt(100));
                    due("years(" + s + "," + n + ")", x.years(s, n), m.years(s, n));
                    break;
                }
                case 40:
                case 41: {
                    int p = who();
                    int d = day();
                    due("drawn(" + p + "," + d + ")", x.drawn(p, d), m.drawn(p, d));
                    break;
                }
                case 42:
                    if (r.nextInt(2) == 0) {
                        int k = odd(r.nextInt(2));
                        due("image(" + k + ")", x.image(k), m.image(k));
                    }
                    break;
                case 43:
                    if (r.nextInt(2) == 0) {
                        int k = odd(r.nextInt(2));
                        due("back(" + k + ")", x.back(k), m.back(k));
                    }
                    break;
                case 44:
                case 45: {
                    int w = odd(r.nextInt(17));
                    due("count(" + w + ")", x.count(w), m.count(w));
                    break;
                }
                case 46:
                    due("status()", x.status(), m.status);
                    break;
                default:
                    due("grain()", x.grain(), m.grain);
                    break;
            }
        }
    }

    /** Writes texts, most of them right, some of them just over an edge. */
    private static final class Writer {
        final Random r;
        final boolean orders;
        final List<String> out = new ArrayList<>();
        int left = 14;

        Writer(Random r, boolean orders) {
            this.r = r;
            this.orders = orders;
        }

        String text() {
            int shape = r.nextInt(40);
            if (shape == 0) {
                return blanks(r.nextInt(30));
            }
            if (shape == 1) {
                return many();
            }
            int clauses = r.nextInt(6) == 0 ? 1 + r.nextInt(13) : 1 + r.nextInt(4);
            for (int i = 0; i < clauses; i++) {
                if (i > 0) {
                    out.add(";");
                }
                left = clauses > 6 ? 3 : 10;
                clause();
            }
            if (r.nextInt(6) == 0) {
                spoil();
            }
            return joined();
        }

        /** Up to the limits of parts and brackets, and one over. */
        String many() {
            out.add(orders ? "develop" : "takes");
            int kind = r.nextInt(3);
            if (kind == 0) {
                int parts = 49 + r.nextInt(4);
                for (int i = 0; i < parts; i++) {
                    if (i > 0) {
                        out.add(r.nextInt(3) == 0 ? "-" : "+");
                    }
                    out.add(r.nextInt(9) == 0 ? "week" : "" + r.nextInt(3));
                }
            } else if (kind == 1) {
                int depth = 7 + r.nextInt(3);
                for (int i = 0; i < depth; i++) {
                    out.add("[");
                }
                out.add("1");
                for (int i = 0; i < depth; i++) {
                    out.add("]");
                }
            } else {
                out.add("0");
                out.add("if");
                int depth = 5 + r.nextInt(5);
                for (int i = 0; i < depth; i++) {
                    for (int k = r.nextInt(3); k > 0; k--) {
                        out.add("not");
                    }
                    out.add("(");
                }
                int inner = r.nextInt(3);
                for (int i = 0; i < inner; i++) {
                    out.add("[");
                }
                out.add("week");
                for (int i = 0; i < inner; i++) {
                    out.add("]");
                }
                out.add("<");
                out.add("5");
                for (int i = 0; i < depth; i++) {
                    out.add(")");
                }
            }
            if (r.nextInt(3) == 0) {
                spoil();
            }
            return joined();
        }

        void clause() {
            if (orders) {
                switch (r.nextInt(6)) {
                    case 0:
                        out.add("develop");
                        small(4);
                        break;
                    case 1:
                    case 2:
                        if (r.nextInt(6) == 0) {
                            out.add("bury");
                            small(6);
                        } else {
                            out.add("pass");
                        }
                        break;
                    default:
                        out.add("talk");
                        small(4);
                        out.add("with");
                        small(5);
                        out.add("of");
                        small(4);
                        break;
                }
                if (r.nextInt(3) == 0) {
                    out.add("times");
                    out.add("" + (r.nextInt(12) == 0 ? r.nextInt(25) : 1 + r.nextInt(6)));
                }
            } else {
                int kind = r.nextInt(5);
                if (kind == 0) {
                    out.add("bars");
                } else {
                    out.add(kind < 3 ? "takes" : "sways");
                    sum(0);
                }
            }
            if (r.nextInt(orders ? 3 : 5) > 0) {
                out.add("if");
                test(0);
            }
        }

        void small(int many) {
            if (r.nextInt(4) == 0) {
                sum(0);
            } else {
                out.add("" + r.nextInt(many));
            }
        }

        void test(int depth) {
            both(depth);
            while (left > 0 && r.nextInt(4) == 0) {
                out.add("or");
                both(depth);
            }
        }

        void both(int depth) {
            plain(depth);
            while (left > 0 && r.nextInt(4) == 0) {
                out.add("and");
                plain(depth);
            }
        }

        void plain(int depth) {
            while (r.nextInt(5) == 0) {
                out.add("not");
            }
            if (left > 0 && depth < 4 && r.nextInt(5) == 0) {
                out.add("(");
                test(depth + 1);
                out.add(")");
                return;
            }
            sum(depth);
            out.add("<>=".charAt(r.nextInt(3)) + "");
            sum(depth);
        }

        void sum(int depth) {
            term(depth);
            while (left > 0 && r.nextInt(3) == 0) {
                out.add(r.nextBoolean() ? "+" : "-");
                term(depth);
            }
        }

        void term(int depth) {
            part(depth);
            while (left > 0 && r.nextInt(5) == 0) {
                out.add("*/%".charAt(r.nextInt(3)) + "");
                part(depth);
            }
        }

        void part(int depth) {
            left--;
            int k = r.nextInt(10);
            if (k == 0 && left > 0 && depth < 4) {
                out.add("[");
                sum(depth + 1);
                out.add("]");
            } else if (k < 4) {
                int[] numbers = {0, 1, 2, 3, r.nextInt(10), 1000, r.nextInt(1001), r.nextInt(40) == 0 ? 1001 : 50};
                out.add((r.nextInt(20) == 0 ? "00" : "") + numbers[r.nextInt(numbers.length)]);
            } else if (orders) {
                String[] words = {"week", "done", "latest", "living", "agrees", "mark"};
                int w = r.nextInt(6);
                out.add(words[w]);
                if (w == 4) {
                    out.add("" + (r.nextInt(30) == 0 ? 8 : r.nextInt(8)));
                } else if (w == 5) {
                    out.add("" + (r.nextInt(30) == 0 ? 24 : r.nextInt(24)));
                }
            } else {
                String[] words = {"person", "other", "mark", "its", "firm", "age", "day", "week", "mood", "mark", "its"};
                out.add(words[r.nextInt(words.length)]);
            }
        }

        void spoil() {
            if (out.isEmpty()) {
                return;
            }
            String[] stray = {";", "if", "(", ")", "[", "]", "+", "=", "x", "takes", "pass", "1001", "99999999999999",
                "not", "and", "or", "times", "with", "of", "mark", "done", "its", "!", "\u00e9", "\n", "A", "week", "7"};
            int at = r.nextInt(out.size());
            switch (r.nextInt(3)) {
                case 0:
                    out.remove(at);
                    break;
                case 1:
                    out.add(at, stray[r.nextInt(stray.length)]);
                    break;
                default:
                    out.set(at, stray[r.nextInt(stray.length)]);
                    break;
            }
        }

        String joined() {
            StringBuilder b = new StringBuilder(r.nextInt(4) == 0 ? blanks(r.nextInt(3)) : "");
            for (String token : out) {
                boolean apart = b.length() > 0 && kind(b.charAt(b.length() - 1)) == kind(token.charAt(0))
                        && kind(token.charAt(0)) != 2;
                b.append(blanks((apart ? 1 : 0) + (r.nextInt(4) == 0 ? r.nextInt(2) : 0)));
                b.append(token);
            }
            if (r.nextInt(8) == 0) {
                b.append(blanks(r.nextInt(4)));
            }
            return b.length() > 400 ? b.substring(0, 400) : b.toString();
        }

        static int kind(char c) {
            return c >= 'a' && c <= 'z' ? 0 : c >= '0' && c <= '9' ? 1 : 2;
        }

        static String blanks(int n) {
            return " ".repeat(n);
        }
    }

    private static final class Fault extends RuntimeException {
        private static final long serialVersionUID = 1;
        final int place;

        Fault(int place) {
            super(null, null, false, false);
            this.place = place;
        }
    }

    private static final class Broken extends RuntimeException {
        private static final long serialVersionUID = 1;

        Broken() {
            super(null, null, false, false);
        }
    }

    private interface Words {
        long word(String word, int detail);
    }

    private interface Sum {
        long of(Words w);
    }

    private interface Test {
        boolean of(Words w);
    }

    private static final class Clause {
        String kind;
        List<Sum> sums = new ArrayList<>();
        int times = 1;
        Test test;
    }

    private static final class Parser {
        final String text;
        final boolean orders;
        final List<String> tokens = new ArrayList<>();
        final List<Integer> places = new ArrayList<>();
        int at;
        int parts;
        int open;

        Parser(String text, boolean orders) {
            this.text = text;
            this.orders = orders;
            int i = 0;
            while (i < text.length()) {
                char c = text.charAt(i);
                if (c == ' ') {
                    i++;
                    continue;
                }
                int j = i + 1;
                if (Writer.kind(c) != 2) {
                    while (j < text.length() && Writer.kind(text.charAt(j)) == Writer.kind(c)) {
                        j++;
                    }
                }
                tokens.add(text.substring(i, j));
                places.add(i);
                i = j;
            }
            tokens.add("");
            places.add(text.length());
        }

        String peek() {
            return tokens.get(at);
        }

        Fault fault() {
            return new Fault(places.get(at));
        }

        boolean take(String token) {
            if (peek().equals(token)) {
                at++;
                return true;
            }
            return false;
        }

        void need(String token) {
            if (!take(token)) {
                throw fault();
            }
        }

        List<Clause> all() {
            List<Clause> clauses = new ArrayList<>();
            do {
                if (clauses.size() == 12) {
                    throw fault();
                }
                clauses.add(clause());
            } while (take(";"));
            if (!peek().isEmpty()) {
                throw fault();
            }
            return clauses;
        }

        Clause clause() {
            Clause c = new Clause();
            List<String> kinds = orders ? List.of("talk", "develop", "bury", "pass") : List.of("takes", "sways", "bars");
            if (!kinds.contains(peek())) {
                throw fault();
            }
            c.kind = tokens.get(at++);
            if (!c.kind.equals("bars") && !c.kind.equals("pass")) {
                c.sums.add(sum());
            }
            if (c.kind.equals("talk")) {
                need("with");
                c.sums.add(sum());
                need("of");
                c.sums.add(sum());
            }
            if (orders && take("times")) {
                c.times = number(1, 20);
            }
            if (take("if")) {
                c.test = test();
            }
            return c;
        }

        int number(int low, int high) {
            if (peek().isEmpty() || Writer.kind(peek().charAt(0)) != 1) {
                throw fault();
            }
            java.math.BigInteger n = new java.math.BigInteger(peek());
            if (n.compareTo(java.math.BigInteger.valueOf(low)) < 0 || n.compareTo(java.math.BigInteger.valueOf(high)) > 0) {
                throw fault();
            }
            at++;
            return n.intValue();
        }

        Test test() {
            Test t = both();
            while (take("or")) {
                Test a = t;
                Test b = both();
                t = w -> a.of(w) || b.of(w);
            }
            return t;
        }

        Test both() {
            Test t = plain();
            while (take("and")) {
                Test a = t;
                Test b = plain();
                t = w -> a.of(w) && b.of(w);
            }
            return t;
        }

        Test plain() {
            if (take("not")) {
                Test t = plain();
                return w -> !t.of(w);
            }
            if (peek().equals("(")) {
                enter();
                Test t = test();
                leave(")");
                return t;
            }
            Sum a = sum();
            String sign = peek();
            if (!List.of("<", ">", "=").contains(sign)) {
                throw fault();
            }
            at++;
            Sum b = sum();
            return w -> {
                long x = a.of(w);
                long y = b.of(w);
                return sign.equals("<") ? x < y : sign.equals(">") ? x > y : x == y;
            };
        }

        void enter() {
            if (open == 8) {
                throw fault();
            }
            open++;
            at++;
        }

        void leave(String bracket) {
            need(bracket);
            open--;
        }

        static long checked(long v) {
            if (Math.abs(v) > 1000000000L) {
                throw new Broken();
            }
            return v;
        }

        Sum sum() {
            Sum s = term();
            while (peek().equals("+") || peek().equals("-")) {
                boolean plus = tokens.get(at++).equals("+");
                Sum a = s;
                Sum b = term();
                s = w -> checked(plus ? a.of(w) + b.of(w) : a.of(w) - b.of(w));
            }
            return s;
        }

        Sum term() {
            Sum s = part();
            while (List.of("*", "/", "%").contains(peek())) {
                String sign = tokens.get(at++);
                Sum a = s;
                Sum b = part();
                s = w -> {
                    long x = a.of(w);
                    long y = b.of(w);
                    if (sign.equals("*")) {
                        return checked(x * y);
                    }
                    if (y == 0) {
                        throw new Broken();
                    }
                    return sign.equals("/") ? x / y : x - x / y * y;
                };
            }
            return s;
        }

        Sum part() {
            if (peek().equals("[")) {
                enter();
                Sum s = sum();
                leave("]");
                return s;
            }
            if (parts == 50) {
                throw fault();
            }
            String token = peek();
            if (!token.isEmpty() && Writer.kind(token.charAt(0)) == 1) {
                int n = number(0, 1000);
                parts++;
                return w -> n;
            }
            List<String> words = orders ? List.of("week", "done", "latest", "living", "agrees", "mark")
                    : List.of("person", "other", "mark", "its", "firm", "age", "day", "week", "mood");
            if (!words.contains(token)) {
                throw fault();
            }
            at++;
            parts++;
            int detail = !orders ? 0 : token.equals("agrees") ? number(0, 7) : token.equals("mark") ? number(0, 23) : 0;
            return w -> w.word(token, detail);
        }
    }

    /** The document, as plainly as can be. */
    private static final class Model {
        List<int[]> people = new ArrayList<>();
        List<int[]> rolls = new ArrayList<>();
        List<int[]> told = new ArrayList<>();
        List<List<Clause>> laws = new ArrayList<>();
        int[] terms = {0, 2, 0};
        int force = -1;
        ArrayDeque<Object[]> past = new ArrayDeque<>();
        final Object[][] images = new Object[2][];
        String tape = "";
        int fault = -1;
        int stopped = -1;
        int grain;
        int status;
        final int[] refused = new int[7];
        List<int[]> years = new ArrayList<>();

        int refuse(int by) {
            status = by;
            refused[-by]++;
            return by;
        }

        int fine(int answer) {
            status = 0;
            return answer;
        }

        static boolean in(int v, int low, int high) {
            return v >= low && v <= high;
        }

        boolean isPerson(int p) {
            return in(p, 0, people.size() - 1);
        }

        boolean isRoll(int p) {
            return in(p, 0, rolls.size() - 1);
        }

        static int[] newPerson(int f, int a, int k) {
            return new int[] {f, a, 1, k / 64, k / 16 % 4, k / 4 % 4, k % 4};
        }

        int person(int f, int a, int k) {
            if (!in(f, 0, 9) || !in(a, 0, 99) || !in(k, 0, 255)) {
                return refuse(-1);
            }
            if (people.size() == 6) {
                return refuse(-5);
            }
            people.add(newPerson(f, a, k));
            past.clear();
            return fine(people.size() - 1);
        }

        int of(int p, int w) {
            return isPerson(p) && in(w, 0, 6) ? people.get(p)[w] : -1;
        }

        int roll(int d, int on) {
            if (!in(d, 0, 3) || on < 1 || on > (1 << people.size()) - 1) {
                return refuse(-1);
            }
            if (rolls.size() == 8) {
                return refuse(-5);
            }
            rolls.add(new int[] {d, on, 0});
            past.clear();
            return fine(rolls.size() - 1);
        }

        /** Living ones on it. */
        List<Integer> on(int roll) {
            List<Integer> all = new ArrayList<>();
            for (int p = 0; p < people.size(); p++) {
                if ((rolls.get(roll)[1] >> p & 1) == 1 && people.get(p)[2] == 1) {
                    all.add(p);
                }
            }
            return all;
        }

        static Set<Integer> marksOf(List<Integer> who, int[] row) {
            Set<Integer> marks = new HashSet<>();
            for (int p : who) {
                marks.add(row[p]);
            }
            return marks;
        }

        int[] rowNow(int day) {
            int[] row = new int[people.size()];
            for (int p = 0; p < row.length; p++) {
                row[p] = people.get(p)[3 + day];
            }
            return row;
        }

        boolean agrees(int roll) {
            return marksOf(on(roll), rowNow(rolls.get(roll)[0])).size() < 2;
        }

        int at(int p, int w) {
            if (!isRoll(p) || !in(w, 0, 3)) {
                return -1;
            }
            return w < 3 ? rolls.get(p)[w] : agrees(p) ? 1 : 0;
        }

        int terms(int w, int v) {
            int[] most = {999, 10, 9};
            if (!in(w, 0, 2) || !in(v, 0, most[w])) {
                return refuse(-1);
            }
            int was = terms[w];
            terms[w] = v;
            past.clear();
            return fine(was);
        }

        int feed(int... n) {
            if (tape.length() > 380) {
                return -1;
            }
            StringBuilder b = new StringBuilder(tape);
            for (int v : n) {
                b.append((char) (v >>> 24)).append((char) (v >>> 16 & 255)).append((char) (v >>> 8 & 255)).append((char) (v & 255));
            }
            tape = b.toString();
            return tape.length();
        }

        int end(int n) {
            if (!in(n, 0, tape.length())) {
                return -1;
            }
            tape = tape.substring(0, n);
            return n;
        }

        int row() {
            if (tape.isEmpty()) {
                return refuse(-6);
            }
            grain = 0;
            int came = 0;
            for (int i = 0; i < tape.length(); i += 3) {
                if (i + 3 > tape.length() || people.size() == 6 || tape.charAt(i) > 9 || tape.charAt(i + 1) > 99) {
                    grain++;
                } else {
                    people.add(newPerson(tape.charAt(i), tape.charAt(i + 1), tape.charAt(i + 2)));
                    came++;
                }
            }
            tape = "";
            past.clear();
            return fine(came);
        }

        int law() {
            String text = tape;
            tape = "";
            if (laws.size() == 6) {
                return refuse(-5);
            }
            try {
                laws.add(new Parser(text, false).all());
                fault = -1;
                return fine(laws.size() - 1);
            } catch (Fault f) {
                fault = f.place;
                return refuse(-6);
            }
        }

        int force(int l) {
            if (l != -1 && !in(l, 0, laws.size() - 1)) {
                return refuse(-2);
            }
            int was = force;
            force = l;
            return fine(was);
        }

        boolean holds(Clause c, Words w) {
            try {
                if (c.test != null && !c.test.of(w)) {
                    return false;
                }
                for (Sum s : c.sums) {
                    s.of(w);
                }
                return true;
            } catch (Broken b) {
                return false;
            }
        }

        Words words(int p, int o, int d, int mark, int its, int week) {
            return (word, detail) -> {
                switch (word) {
                    case "person":
                        return p;
                    case "other":
                        return o;
                    case "mark":
                        return mark;
                    case "its":
                        return its;
                    case "firm":
                        return people.get(p)[0];
                    case "age":
                        return people.get(p)[1];
                    case "day":
                        return d;
                    case "week":
                        return week;
                    default:
                        return terms[2];
                }
            };
        }

        List<Clause> inForce() {
            return force == -1 ? List.of() : laws.get(force);
        }

        int sways(int p, int o, int d, int mark, int its, int week) {
            int s = people.get(p)[0];
            Words w = words(p, o, d, mark, its, week);
            for (Clause c : inForce()) {
                if (c.kind.equals("sways") && holds(c, w)) {
                    s = (int) Math.max(0, Math.min(9, c.sums.get(0).of(w)));
                }
            }
            return s;
        }

        boolean barred(int p, int o, int d, int mark, int its, int week) {
            Words w = words(p, o, d, mark, its, week);
            for (Clause c : inForce()) {
                if (c.kind.equals("bars") && holds(c, w)) {
                    return true;
                }
            }
            return false;
        }

        int takes(int p, int o, int d, int mark, int its, int week) {
            Words w = words(p, o, d, mark, its, week);
            for (int i = inForce().size() - 1; i >= 0; i--) {
                Clause c = inForce().get(i);
                if (c.kind.equals("takes") && holds(c, w)) {
                    return (int) Math.max(0, Math.min(3, c.sums.get(0).of(w)));
                }
            }
            int mine = sways(p, o, d, mark, its, week);
            int theirs = sways(o, p, d, its, mark, week);
            return theirs > mine || theirs == mine && o > p ? its : mark;
        }

        int asks(int p, int o, int d, int w) {
            if (!isPerson(p) || !isPerson(o) || p == o || !in(d, 0, 3) || !in(w, 0, 2)) {
                return -1;
            }
            int a = people.get(p)[3 + d];
            int b = people.get(o)[3 + d];
            return w == 0 ? takes(p, o, d, a, b, terms[0]) : w == 1 ? sways(p, o, d, a, b, terms[0])
                    : barred(p, o, d, a, b, terms[0]) ? 1 : 0;
        }

        /** Null if one is barred; who lives is for others to ask. */
        int[] talked(int[] row, int a, int b, int d, int week) {
            if (barred(a, b, d, row[a], row[b], week) || barred(b, a, d, row[b], row[a], week)) {
                return null;
            }
            int[] then = row.clone();
            then[a] = takes(a, b, d, row[a], row[b], week);
            then[b] = takes(b, a, d, row[b], row[a], week);
            return then;
        }

        void keep(int kind) {
            past.addLast(new Object[] {kind, copy(people), copy(rolls), terms[0]});
            if (past.size() > 16) {
                past.removeFirst();
            }
        }

        static List<int[]> copy(List<int[]> rows) {
            List<int[]> all = new ArrayList<>();
            for (int[] row : rows) {
                all.add(row.clone());
            }
            return all;
        }

        int plainTalk(int a, int b, int d) {
            if (!in(d, 0, 3) || a == b) {
                return -1;
            }
            if (!isPerson(a) || !isPerson(b)) {
                return -2;
            }
            int[] row = rowNow(d);
            int[] then = people.get(a)[2] == 1 && people.get(b)[2] == 1 ? talked(row, a, b, d, terms[0]) : null;
            if (then == null) {
                return -3;
            }
            keep(0);
            people.get(a)[3 + d] = then[a];
            people.get(b)[3 + d] = then[b];
            return different(row, then);
        }

        static int different(int[] a, int[] b) {
            int n = 0;
            for (int i = 0; i < a.length; i++) {
                n += a[i] == b[i] ? 0 : 1;
            }
            return n;
        }

        int plainDevelop(int p) {
            if (!isRoll(p)) {
                return -2;
            }
            if (rolls.get(p)[2] == 1 || !agrees(p)) {
                return -3;
            }
            keep(1);
            rolls.get(p)[2] = 1;
            return on(p).isEmpty() ? 100 : people.get(on(p).get(0))[3 + rolls.get(p)[0]];
        }

        int living() {
            int n = 0;
            for (int[] p : people) {
                n += p[2];
            }
            return n;
        }

        int plainBury(int p) {
            if (!isPerson(p)) {
                return -2;
            }
            if (people.get(p)[2] == 0) {
                return -3;
            }
            keep(2);
            people.get(p)[2] = 0;
            return living();
        }

        int plainPass() {
            if (terms[0] == 999) {
                return -3;
            }
            keep(3);
            return ++terms[0];
        }

        int settle(int answer) {
            return answer < 0 ? refuse(answer) : fine(answer);
        }

        int talk(int a, int b, int d) {
            return settle(plainTalk(a, b, d));
        }

        int develop(int p) {
            return settle(plainDevelop(p));
        }

        int bury(int p) {
            return settle(plainBury(p));
        }

        int pass() {
            return settle(plainPass());
        }

        @SuppressWarnings("unchecked")
        int undo() {
            if (past.isEmpty()) {
                return refuse(-3);
            }
            Object[] was = past.removeLast();
            people = (List<int[]>) was[1];
            rolls = (List<int[]>) was[2];
            terms[0] = (Integer) was[3];
            return fine((Integer) was[0]);
        }

        int orders() {
            String text = tape;
            tape = "";
            stopped = -1;
            List<Clause> clauses;
            try {
                clauses = new Parser(text, true).all();
                fault = -1;
            } catch (Fault f) {
                fault = f.place;
                return refuse(-6);
            }
            List<int[]> peopleWere = copy(people);
            List<int[]> rollsWere = copy(rolls);
            int weekWas = terms[0];
            ArrayDeque<Object[]> pastWas = new ArrayDeque<>(past);
            int[] done = {0, -1};
            for (int i = 0; i < clauses.size(); i++) {
                for (int k = 0; k < clauses.get(i).times; k++) {
                    if (!order(clauses.get(i), done)) {
                        people = peopleWere;
                        rolls = rollsWere;
                        terms[0] = weekWas;
                        past = pastWas;
                        stopped = i;
                        return refuse(-3);
                    }
                }
            }
            return fine(done[0]);
        }

        boolean order(Clause c, int[] done) {
            Words w = (word, detail) -> {
                switch (word) {
                    case "week":
                        return terms[0];
                    case "done":
                        return done[0];
                    case "latest":
                        return done[1];
                    case "living":
                        return living();
                    case "agrees":
                        return isRoll(detail) ? (agrees(detail) ? 1 : 0) : -1;
                    default:
                        return isPerson(detail / 4) ? people.get(detail / 4)[3 + detail % 4] : -1;
                }
            };
            try {
                if (c.test != null && !c.test.of(w)) {
                    return true;
                }
            } catch (Broken b) {
                return true;
            }
            int[] s = new int[3];
            try {
                for (int i = 0; i < c.sums.size(); i++) {
                    s[i] = (int) c.sums.get(i).of(w);
                }
            } catch (Broken b) {
                return false;
            }
            int answer = c.kind.equals("talk") ? plainTalk(s[0], s[1], s[2]) : c.kind.equals("develop") ? plainDevelop(s[0])
                    : c.kind.equals("bury") ? plainBury(s[0]) : plainPass();
            if (answer < 0) {
                return false;
            }
            done[0]++;
            if (c.kind.equals("talk")) {
                done[1] = answer;
            }
            return true;
        }

        /** All rows that can be reached, each with its lowest shortest way, level by level. */
        List<Map<String, List<Integer>>> levels(int day, int company) {
            List<Map<String, List<Integer>>> levels = new ArrayList<>();
            Set<String> met = new HashSet<>();
            Map<String, int[]> rows = new HashMap<>();
            Map<String, List<Integer>> level = new HashMap<>();
            int[] now = rowNow(day);
            level.put(Arrays.toString(now), List.of());
            rows.put(Arrays.toString(now), now);
            Comparator<List<Integer>> byNumbers = (a, b) -> {
                for (int i = 0; i < a.size(); i++) {
                    if (!a.get(i).equals(b.get(i))) {
                        return a.get(i) - b.get(i);
                    }
                }
                return 0;
            };
            while (!level.isEmpty()) {
                levels.add(level);
                met.addAll(level.keySet());
                Map<String, List<Integer>> next = new HashMap<>();
                for (Map.Entry<String, List<Integer>> e : level.entrySet()) {
                    int[] row = rows.get(e.getKey());
                    for (int a = 0; a < row.length; a++) {
                        for (int b = a + 1; b < row.length; b++) {
                            if ((company >> a & 1) == 0 || (company >> b & 1) == 0) {
                                continue;
                            }
                            int[] then = memoTalk(row, a, b, day);
                            String key = then == null ? null : Arrays.toString(then);
                            if (then == null || met.contains(key)) {
                                continue;
                            }
                            rows.put(key, then);
                            List<Integer> way = new ArrayList<>(e.getValue());
                            way.add(10 * a + b);
                            List<Integer> old = next.get(key);
                            if (old == null || byNumbers.compare(way, old) < 0) {
                                next.put(key, way);
                            }
                        }
                    }
                }
                level = next;
            }
            lastRows = rows;
            lastOrder = byNumbers;
            return levels;
        }

        Map<String, int[]> lastRows;
        Comparator<List<Integer>> lastOrder;
        final Map<Integer, int[]> memo = new HashMap<>();

        int[] memoTalk(int[] row, int a, int b, int day) {
            int key = ((a * 6 + b) * 4 + row[a]) * 4 + row[b];
            if (!memo.containsKey(key)) {
                int[] then = talked(row, a, b, day, terms[0]);
                memo.put(key, then == null ? null : new int[] {then[a], then[b]});
            }
            int[] two = memo.get(key);
            if (two == null) {
                return null;
            }
            int[] then = row.clone();
            then[a] = two[0];
            then[b] = two[1];
            return then;
        }

        int alive() {
            int bits = 0;
            for (int p = 0; p < people.size(); p++) {
                bits |= people.get(p)[2] << p;
            }
            return bits;
        }

        int soonest(int roll, int i) {
            if (!isRoll(roll)) {
                return -1;
            }
            memo.clear();
            for (Map<String, List<Integer>> level : levels(rolls.get(roll)[0], alive())) {
                List<Integer> best = null;
                for (Map.Entry<String, List<Integer>> e : level.entrySet()) {
                    if (marksOf(on(roll), lastRows.get(e.getKey())).size() < 2
                            && (best == null || lastOrder.compare(e.getValue(), best) < 0)) {
                        best = e.getValue();
                    }
                }
                if (best != null) {
                    return i == -1 ? best.size() : in(i, 0, best.size() - 1) ? best.get(i) : -1;
                }
            }
            return -1;
        }

        int ends(int roll) {
            if (!isRoll(roll)) {
                return -1;
            }
            memo.clear();
            levels(rolls.get(roll)[0], alive());
            int bits = 0;
            for (int[] row : lastRows.values()) {
                Set<Integer> marks = marksOf(on(roll), row);
                if (marks.size() == 1) {
                    bits |= 1 << marks.iterator().next();
                }
            }
            return bits;
        }

        int house(int roll, int w) {
            if (!isRoll(roll) || !in(w, 0, 1)) {
                return -1;
            }
            memo.clear();
            int best = -1;
            for (int set = 0; set < 64; set++) {
                if ((set & ~alive()) != 0 || best >= 0 && Integer.bitCount(set) >= Integer.bitCount(best)) {
                    continue;
                }
                levels(rolls.get(roll)[0], set);
                for (int[] row : lastRows.values()) {
                    if (marksOf(on(roll), row).size() < 2) {
                        best = set;
                        break;
                    }
                }
            }
            return best < 0 || w == 1 ? best : Integer.bitCount(best);
        }

        int givings(int what) {
            int[][] then = new int[people.size()][4];
            int given = 0;
            for (int d = 0; d < 4; d++) {
                int[] now = rowNow(d);
                int[] heap = new int[now.length];
                for (int p = 0; p < heap.length; p++) {
                    heap[p] = p;
                }
                for (int k = 0; k < rolls.size(); k++) {
                    if (rolls.get(k)[0] == d && rolls.get(k)[2] == 0) {
                        for (int p : on(k)) {
                            int old = heap[p];
                            for (int q = 0; q < heap.length; q++) {
                                if (heap[q] == old) {
                                    heap[q] = heap[on(k).get(0)];
                                }
                            }
                        }
                    }
                }
                for (int p = 0; p < heap.length; p++) {
                    int[] many = new int[4];
                    for (int q = 0; q < heap.length; q++) {
                        if (heap[q] == heap[p]) {
                            many[now[q]]++;
                        }
                    }
                    int best = 0;
                    for (int k = 1; k < 4; k++) {
                        best = many[k] > many[best] ? k : best;
                    }
                    then[p][d] = best;
                    given += best == now[p] ? 0 : 1;
                }
            }
            if (what == 0) {
                return given;
            }
            return what > 0 && isPerson((what - 1) / 4) ? then[(what - 1) / 4][(what - 1) % 4] : -1;
        }

        int told(int a, int b, int d) {
            if (!in(d, 0, 3) || a == b) {
                return refuse(-1);
            }
            if (!isPerson(a) || !isPerson(b)) {
                return refuse(-2);
            }
            if (told.size() == 8) {
                return refuse(-5);
            }
            told.add(new int[] {a, b, d});
            return fine(told.size());
        }

        int forget() {
            int n = told.size();
            told.clear();
            return n;
        }

        List<int[]> rowsThatWere(int day) {
            memo.clear();
            List<int[]> all = new ArrayList<>();
            all.add(new int[0]);
            for (int p = 0; p < people.size(); p++) {
                List<int[]> longer = new ArrayList<>();
                for (int[] row : all) {
                    for (int k = 0; k < 4; k++) {
                        int[] more = Arrays.copyOf(row, p + 1);
                        more[p] = k;
                        longer.add(more);
                    }
                }
                all = longer;
            }
            List<int[]> fit = new ArrayList<>();
            for (int[] row : all) {
                int[] then = row;
                for (int[] t : told) {
                    if (t[2] == day) {
                        int[] next = memoTalk(then, t[0], t[1], day);
                        then = next == null ? then : next;
                    }
                }
                if (Arrays.equals(then, rowNow(day))) {
                    fit.add(row);
                }
            }
            return fit;
        }

        int were(int day, int i, int p) {
            if (!in(day, 0, 3)) {
                return -1;
            }
            List<int[]> fit = rowsThatWere(day);
            return i == -1 ? fit.size() : in(i, 0, fit.size() - 1) && isPerson(p) ? fit.get(i)[p] : -1;
        }

        int ask(int day, int what) {
            if (!in(day, 0, 3) || !in(what, 0, 1)) {
                return -1;
            }
            List<int[]> fit = rowsThatWere(day);
            if (fit.isEmpty() || people.isEmpty()) {
                return -1;
            }
            int best = -1;
            int fewest = Integer.MAX_VALUE;
            for (int p = 0; p < people.size(); p++) {
                int[] many = new int[4];
                for (int[] row : fit) {
                    many[row[p]]++;
                }
                int most = Arrays.stream(many).max().getAsInt();
                if (most < fewest) {
                    fewest = most;
                    best = p;
                }
            }
            return what == 0 ? best : fewest;
        }

        int chatter(int day, int p) {
            if (!in(day, 0, 3) || p != -1 && !isPerson(p)) {
                return -1;
            }
            int[] row = rowNow(day);
            for (int round = 1; round <= 50; round++) {
                int changes = 0;
                for (int a = 0; a < row.length; a++) {
                    for (int b = a + 1; b < row.length; b++) {
                        int[] then = people.get(a)[2] == 1 && people.get(b)[2] == 1 ? talked(row, a, b, day, terms[0]) : null;
                        if (then != null) {
                            changes += different(row, then);
                            row = then;
                        }
                    }
                }
                if (changes == 0) {
                    return p == -1 ? round : row[p];
                }
            }
            return -1;
        }

        int chance(int roll, int n) {
            if (!isRoll(roll) || !in(n, 0, 99)) {
                return -1;
            }
            long live = 1000000;
            for (int i = 0; i < n; i++) {
                live = live * (10 - terms[1]) / 10;
            }
            return (int) chance(on(roll), 0, new ArrayList<>(), 1000000, live, rowNow(rolls.get(roll)[0]));
        }

        long chance(List<Integer> on, int i, List<Integer> alive, long part, long live, int[] row) {
            if (i == on.size()) {
                return marksOf(alive, row).size() < 2 ? part : 0;
            }
            List<Integer> with = new ArrayList<>(alive);
            with.add(on.get(i));
            return chance(on, i + 1, with, part * live / 1000000, live, row)
                    + chance(on, i + 1, alive, part * (1000000 - live) / 1000000, live, row);
        }

        int years(int seed, int n) {
            if (!in(seed, 0, 1000000) || !in(n, 1, 100)) {
                return refuse(-1);
            }
            if (people.isEmpty()) {
                return refuse(-3);
            }
            years = copy(people);
            long[] s = {seed};
            int week = terms[0];
            int changes = 0;
            for (int i = 0; i < n; i++) {
                if (week == 999) {
                    break;
                }
                int d = draw(s, 4);
                int a = draw(s, people.size());
                int b = draw(s, people.size());
                if (a != b && people.get(a)[2] == 1 && people.get(b)[2] == 1) {
                    int[] row = new int[people.size()];
                    for (int p = 0; p < row.length; p++) {
                        row[p] = years.get(p)[3 + d];
                    }
                    int[] then = talked(row, a, b, d, week);
                    if (then != null) {
                        changes += different(row, then);
                        years.get(a)[3 + d] = then[a];
                        years.get(b)[3 + d] = then[b];
                    }
                }
                week++;
            }
            return fine(changes);
        }

        static int draw(long[] s, int m) {
            s[0] = (s[0] * 1103 + 12345) % 1000003;
            return (int) (s[0] % m);
        }

        int drawn(int p, int d) {
            return in(p, 0, years.size() - 1) && in(d, 0, 3) ? years.get(p)[3 + d] : -1;
        }

        int image(int k) {
            if (!in(k, 0, 1)) {
                return refuse(-1);
            }
            images[k] = new Object[] {copy(people), copy(rolls), copy(told), new ArrayList<>(laws), terms.clone(), force};
            return fine(0);
        }

        @SuppressWarnings("unchecked")
        int back(int k) {
            if (!in(k, 0, 1)) {
                return refuse(-1);
            }
            if (images[k] == null) {
                return refuse(-2);
            }
            people = copy((List<int[]>) images[k][0]);
            rolls = copy((List<int[]>) images[k][1]);
            told = copy((List<int[]>) images[k][2]);
            laws = new ArrayList<>((List<List<Clause>>) images[k][3]);
            terms = ((int[]) images[k][4]).clone();
            force = (Integer) images[k][5];
            past.clear();
            return fine(0);
        }

        int count(int w) {
            int done = 0;
            for (int[] roll : rolls) {
                done += roll[2];
            }
            int[] all = {people.size(), living(), rolls.size(), done, told.size(), laws.size(), past.size(), tape.length(),
                refused[1], refused[2], refused[3], refused[5], refused[6], force, terms[0], terms[1], terms[2]};
            return in(w, 0, 16) ? all[w] : -1;
        }
    }
}
