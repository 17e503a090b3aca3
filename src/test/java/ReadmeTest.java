import java.io.ByteArrayOutputStream;
import java.io.IOException;
import java.io.PrintStream;
import java.lang.reflect.Field;
import java.lang.reflect.Method;
import java.lang.reflect.Modifier;
import java.net.URL;
import java.net.URLClassLoader;
import java.nio.file.Files;
import java.nio.file.Path;
import java.util.ArrayList;
import java.util.List;
import java.util.Set;
import java.util.TreeSet;
import java.util.regex.Matcher;
import java.util.regex.Pattern;
import java.util.stream.Stream;
import javax.tools.ToolProvider;

/** README.md: its examples answer as it says, and what it says of the calls and of the tests is so. */
public final class ReadmeTest {
    private static final Dues d = new Dues();
    private static final Path SOURCE = Path.of("src/main/java/TownLisp.java"), TESTS = Path.of("src/test/java");
    private static final Pattern ANSWERED = Pattern.compile("(\\s*)(x\\.\\w+\\(.*\\));\\s*// (-?\\d+)(: .*)?");
    /** These make no town of their own by the class that is counted, or would start all over. */
    private static final Set<String> NOT_COUNTED = Set.of("LanguageTest", "ReadmeTest", "RunTest");
    private static final int MOST_CALLS = 512;

    public static void main(String[] args) throws Exception {
        String readme = Files.readString(Path.of("README.md"));
        examples(readme);
        callsOfTheFace(readme);
        testsOfTheTable(readme);
        noCallMakesAnObject();
        objectsOfAtMost512Calls();
        d.end();
    }

    // ---- examples

    private static void examples(String readme) throws Exception {
        d.part("the examples of README.md");
        List<String> calls = new ArrayList<>();
        List<Long> due = new ArrayList<>();
        String source = exampleSource(readme, calls, due);
        d.holds("there are some", calls.size() > 20);
        Path dir = Files.createTempDirectory("readme");
        try {
            Path file = Files.writeString(dir.resolve("Example.java"), source);
            compile(dir, file, SOURCE);
            try (URLClassLoader loader = loaderOf(dir)) {
                Method answers = loader.loadClass("Example").getDeclaredMethod("answers", List.class);
                answers.setAccessible(true);
                List<long[]> got = new ArrayList<>();
                answers.invoke(null, got);
                Set<Long> seen = new TreeSet<>();
                for (long[] answer : got) {
                    int k = (int) answer[0];
                    d.due(calls.get(k), answer[1], due.get(k));
                    seen.add(answer[0]);
                }
                d.due("all calls were made", seen.size(), calls.size());
            }
        } finally {
            Dues.delete(dir);
        }
    }

    /** All examples behind one another, as they use one object. */
    private static String exampleSource(String readme, List<String> calls, List<Long> due) {
        StringBuilder body = new StringBuilder("final class Example {\n");
        body.append("static void answers(java.util.List<long[]> got) {\n");
        Matcher blocks = Pattern.compile("(?s)```java\n(.*?)```").matcher(readme);
        while (blocks.find()) {
            for (String line : blocks.group(1).split("\n")) {
                Matcher m = ANSWERED.matcher(line);
                if (m.matches()) {
                    body.append(String.format("got.add(new long[] {%d, %s});%n", calls.size(), m.group(2)));
                    calls.add(m.group(2));
                    due.add(Long.valueOf(m.group(3)));
                } else {
                    d.holds("a call without its answer: " + line, !line.strip().startsWith("x."));
                    body.append(line).append('\n');
                }
            }
        }
        return body.append("} }\n").toString();
    }

    private static void callsOfTheFace(String readme) {
        d.part("the calls that README.md tells");
        Set<String> face = new TreeSet<>();
        for (Method m : TownLisp.class.getDeclaredMethods()) {
            if (Modifier.isPublic(m.getModifiers())) {
                face.add(m.getName());
            }
        }
        Set<String> told = new TreeSet<>();
        Matcher rows = Pattern.compile("(?m)^\\| (`.*`) \\|").matcher(readme);
        while (rows.find()) {
            Matcher names = Pattern.compile("`(\\w+)`").matcher(rows.group(1));
            while (names.find()) {
                d.holds(names.group(1) + " is told once", told.add(names.group(1)));
            }
        }
        d.holds("all calls are told: " + told, told.equals(face));
    }

    private static void noCallMakesAnObject() throws IOException {
        d.part("no call makes an object");
        int made = 0;
        for (String line : Files.readString(SOURCE).split("\n")) {
            String code = line.replaceAll("//.*|^\\s*/?\\*.*", "");
            boolean ofField = code.matches("\\s+(private )?final [\\w\\[\\]]+ \\w+ = new .*;");
            boolean ofConstructor = code.strip().equals("sheets[k] = new Sheet();");
            if (code.matches(".*\\bnew\\b.*")) {
                made++;
                d.holds("made with the object alone: " + line.strip(), ofField || ofConstructor);
            }
            String making = ".*(\\.clone\\(|copyOf|List\\b|StringBuilder|\\.substring|toCharArray|\\bInteger [a-z]).*";
            d.holds("no library call that makes one: " + line.strip(), !code.matches(making));
        }
        d.holds("some are made", made > 0);
    }

    // ---- tests

    private static List<String> testFiles() throws IOException {
        try (Stream<Path> all = Files.list(TESTS)) {
            return all.map(file -> file.getFileName().toString()).sorted().toList();
        }
    }

    private static void testsOfTheTable(String readme) throws IOException {
        d.part("the tests that README.md tells");
        Set<String> told = new TreeSet<>();
        Matcher rows = Pattern.compile("(?m)^\\| (\\w+Test) \\|").matcher(readme);
        while (rows.find()) {
            d.holds(rows.group(1) + " is told once", told.add(rows.group(1)));
        }
        Set<String> there = new TreeSet<>();
        for (String file : testFiles()) {
            if (file.endsWith("Test.java")) {
                there.add(file.substring(0, file.length() - ".java".length()));
            } else {
                d.holds(file + " is told", readme.contains("`" + file + "`"));
            }
        }
        d.holds("told are " + told + ", there are " + there, told.equals(there));
    }

    private static void objectsOfAtMost512Calls() throws Exception {
        d.part("no test uses an object for more than 512 calls");
        Path dir = Files.createTempDirectory("counted");
        PrintStream out = System.out;
        try {
            Path file = Files.writeString(dir.resolve("TownLisp.java"), countedSource());
            List<Path> sources = new ArrayList<>(List.of(file));
            for (String test : testFiles()) {
                sources.add(TESTS.resolve(test));
            }
            compile(dir, sources.toArray(new Path[0]));
            for (String test : testFiles()) {
                String name = test.replace(".java", "");
                if (name.endsWith("Test") && !NOT_COUNTED.contains(name)) {
                    System.setOut(new PrintStream(new ByteArrayOutputStream()));
                    int most = mostCalls(dir, name);
                    System.setOut(out);
                    d.holds(name + ": " + most + " calls", most > 0 && most <= MOST_CALLS);
                }
            }
        } finally {
            System.setOut(out);
            Dues.delete(dir);
        }
    }

    /** The class, with each call of its face counted by its object. */
    private static String countedSource() throws IOException {
        String source = Files.readString(SOURCE);
        Matcher heads = Pattern.compile("(?m)^    public (int|long) \\w+\\([^)]*\\) \\{$").matcher(source);
        d.due("calls that are counted", heads.results().count(), 34);
        String counted = heads.reset().replaceAll("$0 countCall();");
        return counted.substring(0, counted.lastIndexOf('}'))
                + "static int most; private int calls; private void countCall() { most = Math.max(most, ++calls); } }";
    }

    private static int mostCalls(Path dir, String test) throws Exception {
        try (URLClassLoader loader = loaderOf(dir)) {
            loader.loadClass(test).getMethod("main", String[].class).invoke(null, (Object) new String[0]);
            Field most = loader.loadClass("TownLisp").getDeclaredField("most");
            most.setAccessible(true);
            return most.getInt(null);
        }
    }

    // ---- compiling

    private static void compile(Path dir, Path... files) {
        List<String> options = new ArrayList<>(List.of("-encoding", "UTF-8", "-d", dir.toString()));
        for (Path file : files) {
            options.add(file.toString());
        }
        int code = ToolProvider.getSystemJavaCompiler().run(null, null, null, options.toArray(new String[0]));
        if (code != 0) {
            throw new IllegalStateException("javac does not take " + List.of(files));
        }
    }

    /** Not by way of this test's own classes, so that the class in dir is the one that is used. */
    private static URLClassLoader loaderOf(Path dir) throws IOException {
        return new URLClassLoader(new URL[] {dir.toUri().toURL()}, ClassLoader.getPlatformClassLoader());
    }
}
