import java.io.IOException;
import java.lang.reflect.Method;
import java.nio.file.Files;
import java.nio.file.Path;
import java.util.regex.Matcher;
import java.util.regex.Pattern;

/** The examples of README.md, line by line on one object: each answers the number behind its "//". */
public final class ReadmeRuns extends Runs {
    private static final Pattern ASKED = Pattern.compile("x\\.(\\w+)\\((.*?)\\); +// (-?\\d+).*");
    private static final Pattern PUT = Pattern.compile("put\\(x, \"([^\"]*)\"\\);");

    public static void main(String[] args) throws IOException, ReflectiveOperationException {
        RollsAgree x = new RollsAgree();
        int examples = 0;
        for (String line : Files.readAllLines(Path.of("README.md"))) {
            Matcher asked = ASKED.matcher(line);
            Matcher put = PUT.matcher(line);
            if (asked.matches()) {
                due(line, answer(x, asked.group(1), asked.group(2)), Integer.parseInt(asked.group(3)));
                examples++;
            } else if (put.matches()) {
                put(x, put.group(1));
            }
        }
        due("whether there are examples", examples >= 10 ? 1 : 0, 1);
        due("whether the page shows how to put a text", Files.readString(Path.of("README.md")).contains(helper()) ? 1 : 0, 1);
        close();
    }

    private static int answer(RollsAgree x, String name, String list) throws ReflectiveOperationException {
        String[] texts = list.isEmpty() ? new String[0] : list.split(", ");
        Class<?>[] types = new Class<?>[texts.length];
        Object[] numbers = new Object[texts.length];
        for (int i = 0; i < texts.length; i++) {
            types[i] = int.class;
            numbers[i] = number(texts[i]);
        }
        Method method = RollsAgree.class.getMethod(name, types);
        return (Integer) method.invoke(x, numbers);
    }

    private static int number(String text) {
        if (text.equals("RollsAgree.NONE")) {
            return RollsAgree.NONE;
        }
        return text.startsWith("0b") ? Integer.parseInt(text.substring(2).replace("_", ""), 2) : Integer.parseInt(text);
    }

    /** The tests' own way to put a text, which the page shows: so it is known to work. */
    private static String helper() throws IOException {
        String all = Files.readString(Path.of("src/test/help/Runs.java"));
        int start = all.indexOf("    static void put(");
        int end = all.indexOf("\n    }\n", start);
        return start < 0 || end < 0 ? "?" : all.substring(start, end + 6).replaceAll("(?m)^ {4}", "");
    }
}
