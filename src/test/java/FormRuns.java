import java.io.IOException;
import java.io.PrintWriter;
import java.io.StringWriter;
import java.lang.management.ManagementFactory;
import java.lang.reflect.Constructor;
import java.lang.reflect.Field;
import java.lang.reflect.Method;
import java.lang.reflect.Modifier;
import java.nio.file.Files;
import java.nio.file.Path;
import java.util.HashMap;
import java.util.HashSet;
import java.util.List;
import java.util.Map;
import java.util.Optional;
import java.util.Set;
import java.util.TreeMap;
import java.util.TreeSet;
import java.util.regex.Matcher;
import java.util.regex.Pattern;
import java.util.spi.ToolProvider;

/** The form of the class: its face, what can be seen of LANGUAGE.md in the source, and the room that a run takes. */
public final class FormRuns {
    private static final String FACE = "person/3 of/2 roll/2 at/2 terms/2 feed/5 end/1 row/0 grain/0 law/0 orders/0 fault/0"
            + " stopped/0 force/1 asks/4 talk/3 develop/1 bury/1 pass/0 undo/0 soonest/2 ends/1 house/2 givings/1 told/3"
            + " forget/0 were/3 ask/2 chatter/2 chance/2 years/2 drawn/2 image/1 back/1 count/1 status/0";
    private static final Path SOURCE = Path.of("src/main/java/RollsAgree.java");
    private static int wrong;

    public static void main(String[] args) throws IOException {
        face();
        source(Files.readString(SOURCE));
        callDepth();
        room();
        System.out.println(wrong == 0 ? "the form is as due" : wrong + " faults of form");
        if (wrong != 0) {
            System.exit(1);
        }
    }

    /** The longest chains of the class's own calls; those that call one another (recursion) count once. */
    private static void callDepth() throws IOException {
        Map<String, Set<String>> calls = new TreeMap<>();
        for (Class<?> c : RollsAgree.class.getDeclaredClasses()) {
            addCalls(c, calls);
        }
        addCalls(RollsAgree.class, calls);
        if (calls.isEmpty()) {
            System.out.println("no javap here: how deep calls go was not looked at");
            return;
        }
        hold("calls were found", calls.size() > 37);
        Map<String, Set<String>> reached = new HashMap<>();
        for (String method : calls.keySet()) {
            Set<String> all = new HashSet<>();
            reach(method, calls, all);
            reached.put(method, all);
        }
        Map<String, Integer> depths = new HashMap<>();
        for (String method : calls.keySet()) {
            int depth = depthOf(method, calls, reached, depths);
            hold("calls go at most eight deep from " + method + ", not " + depth, depth <= 8);
        }
    }

    private static void addCalls(Class<?> c, Map<String, Set<String>> calls) throws IOException {
        Optional<ToolProvider> javap = ToolProvider.findFirst("javap");
        if (javap.isEmpty()) {
            return;
        }
        StringWriter out = new StringWriter();
        String file = c.getResource(c.getName() + ".class").getPath();
        javap.get().run(new PrintWriter(out), new PrintWriter(out), "-c", "-p", "-s", file);
        Pattern head = Pattern.compile("  \\S.*?([\\w$]+)\\(.*\\);");
        Pattern call = Pattern.compile(".*// Method (?:(RollsAgree[\\w$]*)\\.)?\"?([\\w<>]+)\"?:(\\S+)");
        String name = "";
        String method = "";
        for (String line : out.toString().split("\\R")) {
            Matcher called = call.matcher(line);
            Matcher begun = head.matcher(line);
            if (begun.matches()) {
                name = begun.group(1).equals(c.getName()) ? "<init>" : begun.group(1);
            } else if (line.startsWith("    descriptor: ")) {
                method = c.getName() + "." + name + line.substring(16);
                calls.put(method, new TreeSet<>());
            } else if (called.matches() && calls.containsKey(method)) {
                String owner = called.group(1) == null ? c.getName() : called.group(1);
                calls.get(method).add(owner + "." + called.group(2) + called.group(3));
            }
        }
    }

    private static void reach(String method, Map<String, Set<String>> calls, Set<String> all) {
        for (String called : calls.getOrDefault(method, Set.of())) {
            if (all.add(called)) {
                reach(called, calls, all);
            }
        }
    }

    private static int depthOf(String method, Map<String, Set<String>> calls, Map<String, Set<String>> reached, Map<String, Integer> depths) {
        if (depths.containsKey(method)) {
            return depths.get(method);
        }
        int deepest = 0;
        for (String behind : reached.getOrDefault(method, Set.of())) {
            if (!reached.getOrDefault(behind, Set.of()).contains(method)) {
                deepest = Math.max(deepest, depthOf(behind, calls, reached, depths));
            }
        }
        depths.put(method, deepest + 1);
        return deepest + 1;
    }

    private static void hold(String what, boolean holds) {
        if (!holds) {
            wrong++;
            System.out.println("does not hold: " + what);
        }
    }

    private static void face() {
        Class<?> c = RollsAgree.class;
        hold("public and final", Modifier.isPublic(c.getModifiers()) && Modifier.isFinal(c.getModifiers()));
        Set<String> due = new TreeSet<>(List.of(FACE.split(" ")));
        Set<String> got = new TreeSet<>();
        Set<String> names = new TreeSet<>();
        for (Method m : c.getDeclaredMethods()) {
            if (!Modifier.isPrivate(m.getModifiers())) {
                got.add(m.getName() + "/" + m.getParameterCount());
                names.add(m.getName());
                hold(m + " is public, not static, int of ints", Modifier.isPublic(m.getModifiers())
                        && !Modifier.isStatic(m.getModifiers()) && m.getReturnType() == int.class
                        && List.of(m.getParameterTypes()).stream().allMatch(p -> p == int.class));
            }
        }
        hold("the methods are " + due + ", not " + got, due.equals(got));
        for (Constructor<?> k : c.getDeclaredConstructors()) {
            hold("one public constructor without arguments", Modifier.isPublic(k.getModifiers()) && k.getParameterCount() == 0);
        }
        for (Field f : c.getDeclaredFields()) {
            hold(f + " is NONE or private", f.getName().equals("NONE") != Modifier.isPrivate(f.getModifiers()));
        }
        hold("the class has at most 20 fields", List.of(c.getDeclaredFields()).stream()
                .filter(f -> !Modifier.isStatic(f.getModifiers())).count() <= 20);
        for (Class<?> inner : c.getDeclaredClasses()) {
            hold(inner + " is private and static", Modifier.isPrivate(inner.getModifiers()) && Modifier.isStatic(inner.getModifiers()));
            int fields = 0;
            for (Field f : inner.getDeclaredFields()) {
                fields += Modifier.isStatic(f.getModifiers()) ? 0 : 1;
                hold(f + " is final if static", !Modifier.isStatic(f.getModifiers()) || Modifier.isFinal(f.getModifiers()));
            }
            hold(inner + " has at most 20 fields, not " + fields, fields <= 20);
            for (Method m : inner.getDeclaredMethods()) {
                hold(m + " bears no name of the face", !names.contains(m.getName()));
                hold(m + " takes at most 7", m.getParameterCount() <= 7);
            }
        }
        hold("at most 12 classes", c.getDeclaredClasses().length <= 11);
    }

    private static void source(String text) {
        hold("no package", !Pattern.compile("(?m)^package ").matcher(text).find());
        Matcher imports = Pattern.compile("(?m)^import (.*);").matcher(text);
        while (imports.find()) {
            hold("import " + imports.group(1), imports.group(1).equals("java.util.Arrays"));
        }
        String code = text.replaceAll("(?s)/\\*.*?\\*/", "").replaceAll("//[^\n]*", "").replaceAll("\"[^\"\n]*\"", "\"\"");
        for (String word : List.of("throw", "throws", "try", "catch", "synchronized", "assert", "instanceof", "Object", "System\\.out",
                "Random", "Thread", "hashCode", "toString", "Exact")) {
            hold("no " + word, !Pattern.compile("\\b" + word + "\\b").matcher(code).find());
        }
        hold("no lambda, no method reference", !code.contains("->") && !code.contains("::"));
        hold("no static block", !Pattern.compile("static\\s*\\{").matcher(code).find());
        hold("no joined texts", !Pattern.compile("\"\"\\s*\\+|\\+\\s*\"\"").matcher(code).find());
        Matcher calls = Pattern.compile("\\b(Math|Integer|Long|Arrays|System)\\.(\\w+)").matcher(code);
        while (calls.find()) {
            hold("call of " + calls.group(), Set.of("Math.max", "Math.min", "Integer.bitCount", "Arrays.fill",
                    "System.arraycopy").contains(calls.group()));
        }
        methodLengths(code);
    }

    private static void methodLengths(String code) {
        int start = 0;
        int indent = 0;
        String[] lines = code.split("\n");
        for (int i = 0; i < lines.length; i++) {
            Matcher head = Pattern.compile("^( {4}| {8})[\\w\\[\\] ]+\\([^)]*\\) \\{$").matcher(lines[i]);
            if (head.find()) {
                start = i;
                indent = head.group(1).length();
            }
            if (start > 0 && lines[i].equals(" ".repeat(indent) + "}")) {
                hold("at most 60 lines: " + lines[start].trim(), i - start < 60);
                start = 0;
            }
        }
    }

    /** The room is some 600,000 objects and 7.3 million elements; these runs must stay far below it. */
    private static void room() {
        com.sun.management.ThreadMXBean bean = (com.sun.management.ThreadMXBean) ManagementFactory.getThreadMXBean();
        long id = Thread.currentThread().getId();
        dearRun();
        long before = bean.getThreadAllocatedBytes(id);
        new RollsAgree();
        long made = bean.getThreadAllocatedBytes(id) - before;
        hold("a new object takes at most 200,000 bytes, not " + made, made <= 200000);
        before = bean.getThreadAllocatedBytes(id);
        dearRun();
        long ran = bean.getThreadAllocatedBytes(id) - before;
        hold("a dear run takes at most 300,000 bytes, not " + ran, ran <= 300000);
        before = bean.getThreadAllocatedBytes(id);
        lawsRun();
        ran = bean.getThreadAllocatedBytes(id) - before;
        hold("a run of laws takes at most 400,000 bytes, not " + ran, ran <= 400000);
    }

    /** All six, twelve clauses, every search over all 4,096 rows. */
    private static void dearRun() {
        RollsAgree x = new RollsAgree();
        for (int i = 0; i < 6; i++) {
            x.person(i, i, 27 * (i + 1));
        }
        x.roll(0, 63);
        // takes its+1 if its<3
        x.feed(0x74616b65, 0x73206974, 0x732b3120, 0x69662069, 0x74733c33);
        x.law();
        x.force(0);
        for (int i = 0; i < 8; i++) {
            x.told(i % 6, (i + 1) % 6, 0);
        }
        for (int i = 0; i < 45; i++) {
            x.soonest(0, i % 4 - 1);
            x.ends(0);
            x.house(0, i % 2);
            x.were(0, i - 1, i % 6);
            x.ask(0, i % 2);
            x.chatter(0, i % 6);
            x.givings(i % 24);
            x.chance(0, 99);
            x.years(i, 100);
            x.image(i % 2);
            x.back(i % 2);
        }
    }

    private static void lawsRun() {
        RollsAgree x = new RollsAgree();
        x.image(0);
        for (int i = 0; i < 170; i++) {
            x.feed(0x74616b65, 0x73206974, 0x732b3120, 0x69662069, 0x74733c33);
            x.law();
            x.back(0);
        }
    }
}
