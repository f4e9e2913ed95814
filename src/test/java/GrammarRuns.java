import java.util.ArrayList;
import java.util.HashMap;
import java.util.LinkedHashSet;
import java.util.List;
import java.util.Map;
import java.util.Random;
import java.util.Set;

/**
 * FAULT, token by token: texts grow by drawn tokens of the grammar, which stands here as in the document, and behind
 * each of them every token is tried. Which ones can go on is told by a chart of all readings (Earley's way), not by
 * descent as in the class.
 */
public final class GrammarRuns extends Runs {
    private static final int WALKS = 25;
    private static final int MOST_BYTES = 385;

    private static final String BOTH_LANGUAGES = "TEXT: CLAUSE | TEXT ; CLAUSE\n"
            + "IF: | if TEST\n"
            + "TEST: BOTH | TEST or BOTH\n"
            + "BOTH: PLAIN | BOTH and PLAIN\n"
            + "PLAIN: not PLAIN | ( TEST ) | SUM < SUM | SUM > SUM | SUM = SUM\n"
            + "SUM: TERM | SUM + TERM | SUM - TERM\n"
            + "TERM: PART | TERM * PART | TERM / PART | TERM % PART\n";
    private static final String LAW = BOTH_LANGUAGES + "CLAUSE: takes SUM IF | sways SUM IF | bars IF\n"
            + "PART: 0..1000 | [ SUM ] | person | other | mark | its | firm | age | day | week | mood\n";
    private static final String ORDERS = BOTH_LANGUAGES + "CLAUSE: DEED TIMES IF\n"
            + "DEED: talk SUM with SUM of SUM | develop SUM | bury SUM | pass\n"
            + "TIMES: | times 1..20\n"
            + "PART: 0..1000 | [ SUM ] | week | done | latest | living | agrees 0..7 | mark 0..23\n";

    private static final String[] TOKENS = ("takes sways bars talk develop bury pass with of times if not and or person other mark its firm"
            + " age day week mood done latest living agrees ; ( ) [ ] < > = + - * / % 0 1 7 8 20 21 23 24 1000 1001 007 4294967297"
            + " x tak barsif A ? , \u0000 \n \u00ff").split(" ");

    /** One way to read: a rule, how far it is read, where it began. */
    private record Item(String name, List<String> rule, int read, int from) {
        String next() {
            return read < rule.size() ? rule.get(read) : null;
        }
    }

    private static RollsAgree object;
    private static int texts;
    private final Map<String, List<List<String>>> rules = new HashMap<>();
    private final boolean areOrders;
    private final List<Set<Item>> chart = new ArrayList<>();
    private final StringBuilder text = new StringBuilder();
    private String latest = "";
    private int ended;
    private int parts;
    private int depth;

    private GrammarRuns(String grammar, boolean areOrders) {
        this.areOrders = areOrders;
        for (String line : grammar.split("\n")) {
            List<List<String>> ways = new ArrayList<>();
            for (String way : line.substring(line.indexOf(':') + 1).split(" \\| ", -1)) {
                ways.add(way.isBlank() ? List.of() : List.of(way.trim().split(" +")));
            }
            rules.put(line.substring(0, line.indexOf(':')), ways);
        }
    }

    public static void main(String[] args) {
        String[] liked = {"", "( [ not if with of", "+ - * / % 1 mark week 0 7", "; bars pass takes develop 1", "or and ( ) = 1 ]"};
        Random random = new Random(20261118);
        for (int walk = 0; walk < WALKS; walk++) {
            for (String grammar : new String[] {LAW, ORDERS}) {
                promise = (grammar == LAW ? "law" : "orders") + ", walk " + walk;
                List<String> preferred = List.of(liked[walk % liked.length].split(" "));
                new GrammarRuns(grammar, grammar == ORDERS).walk(preferred, random);
            }
        }
        System.out.println(texts + " texts read");
        due("whether they were many", texts > 100000 ? 1 : 0, 1);
        close();
    }

    private void walk(List<String> preferred, Random random) {
        List<List<String>> whole = rules.get("TEXT");
        Set<Item> first = new LinkedHashSet<>();
        for (List<String> rule : whole) {
            first.add(new Item("TEXT", rule, 0, 0));
        }
        chart.add(first);
        fill(0);
        while (text.length() < MOST_BYTES) {
            holdEnd();
            List<String> can = new ArrayList<>();
            for (String token : TOKENS) {
                boolean goesOn = canGoOn(token);
                holdToken(token, goesOn);
                if (goesOn) {
                    can.add(token);
                }
            }
            if (can.isEmpty()) {
                return;
            }
            List<String> better = new ArrayList<>(can);
            better.retainAll(preferred);
            List<String> from = better.isEmpty() || random.nextInt(5) == 0 ? can : better;
            goOn(from.get(random.nextInt(from.size())), random);
        }
    }

    private void goOn(String token, Random random) {
        Set<Item> behind = scanned(token);
        if (!text.isEmpty() && (touches(token) || random.nextInt(4) == 0)) {
            text.append(" ".repeat(1 + random.nextInt(8) / 7));
        }
        text.append(token);
        parts += isPart(token) ? 1 : 0;
        depth += token.equals("(") || token.equals("[") ? 1 : token.equals(")") || token.equals("]") ? -1 : 0;
        ended += token.equals(";") ? 1 : 0;
        latest = token;
        chart.add(behind);
        fill(chart.size() - 1);
    }

    private boolean canGoOn(String token) {
        boolean beyond = ended == 12 || isPart(token) && parts == 50 || (token.equals("(") || token.equals("[")) && depth == 8;
        return !beyond && !scanned(token).isEmpty();
    }

    private boolean isPart(String token) {
        if (isNumber(token)) {
            return !(areOrders && List.of("agrees", "mark", "times").contains(latest));
        }
        return rules.get("PART").stream().anyMatch(rule -> rule.get(0).equals(token)) && !token.equals("[");
    }

    private boolean touches(String token) {
        char last = text.charAt(text.length() - 1);
        return isNumber(token) && Character.isDigit(last) || token.matches("[a-z]+") && last >= 'a' && last <= 'z';
    }

    private static boolean isNumber(String token) {
        return token.matches("[0-9]+");
    }

    private static boolean fits(String wanted, String token) {
        if (!wanted.contains("..")) {
            return wanted.equals(token);
        }
        String[] ends = wanted.split("\\.\\.");
        return isNumber(token) && Long.parseLong(token) >= Long.parseLong(ends[0]) && Long.parseLong(token) <= Long.parseLong(ends[1]);
    }

    private Set<Item> scanned(String token) {
        Set<Item> behind = new LinkedHashSet<>();
        for (Item item : chart.get(chart.size() - 1)) {
            if (item.next() != null && !rules.containsKey(item.next()) && fits(item.next(), token)) {
                behind.add(new Item(item.name, item.rule, item.read + 1, item.from));
            }
        }
        return behind;
    }

    /** All readings that can stand at this place, till no more come. */
    private void fill(int place) {
        Set<Item> here = chart.get(place);
        int before = -1;
        while (here.size() > before) {
            before = here.size();
            for (Item item : List.copyOf(here)) {
                if (item.next() == null) {
                    for (Item outer : List.copyOf(chart.get(item.from))) {
                        if (item.name.equals(outer.next())) {
                            here.add(new Item(outer.name, outer.rule, outer.read + 1, outer.from));
                        }
                    }
                } else if (rules.containsKey(item.next())) {
                    for (List<String> rule : rules.get(item.next())) {
                        here.add(new Item(item.next(), rule, 0, place));
                    }
                }
            }
        }
    }

    private void holdEnd() {
        boolean canEnd = false;
        for (Item item : chart.get(chart.size() - 1)) {
            canEnd |= item.name.equals("TEXT") && item.next() == null && item.from == 0;
        }
        due("fault of " + text, faultOf(text.toString()), canEnd ? NONE : text.length());
    }

    private void holdToken(String token, boolean goesOn) {
        String longer = text + (text.isEmpty() || !touches(token) ? "" : " ");
        int fault = faultOf(longer + token);
        boolean stopsHere = fault == longer.length();
        due("whether it stops ahead of its last token: " + longer + token, stopsHere ? 1 : 0, goesOn ? 0 : 1);
        if (goesOn) {
            due("it goes on to the end: " + longer + token, fault == NONE || fault == (longer + token).length() ? 1 : 0, 1);
        }
    }

    private int faultOf(String whole) {
        // A new object each few texts, that none is used beyond its 512th call.
        if (texts % 15 == 0) {
            object = new RollsAgree();
            object.image(0);
        }
        texts++;
        put(object, whole);
        int answer = areOrders ? object.orders() : object.law();
        object.back(0);
        due("whether it is refused as a text: " + whole, answer == -6 ? 1 : 0, object.fault() == NONE ? 0 : 1);
        return object.fault();
    }
}
