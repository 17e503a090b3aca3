import java.io.IOException;
import java.nio.file.Files;
import java.nio.file.Path;
import java.nio.file.StandardCopyOption;

/** .ci/run itself, on small projects: it runs all tests, and fails if one of them fails or there are none. */
public final class RunTest {
    private static final Dues d = new Dues();
    private static final String GOOD = "System.out.println(new TownLisp().many(0) == 0 ? \"ran NAME\" : \"no\");";
    private static final String BAD = "System.out.println(\"ran NAME\"); System.exit(1);";
    private static final String NO_JAVA = "this is no Java;";

    public static void main(String[] args) throws Exception {
        project("all are good", true, GOOD, GOOD);
        project("a test of the project fails", false, GOOD, BAD);
        project("a shared test fails", false, BAD, GOOD);
        project("a test is not compiled", false, GOOD, NO_JAVA);
        project("no tests of the project", false, GOOD, null);
        project("no shared tests", false, null, GOOD);
        withJavaAlone();
        d.end();
    }

    private static void project(String what, boolean passes, String shared, String own) throws Exception {
        d.part(what);
        Path dir = Files.createTempDirectory("project");
        try {
            Path main = dir.resolve("main");
            copy(".ci/run", main);
            copy("src/main/java/TownLisp.java", main);
            test(dir.resolve("shared/tests"), "Runs", shared);
            // One more on each side, as the first that fails must not end the others.
            test(dir.resolve("shared/tests"), "ZRuns", shared == null ? null : GOOD);
            test(main.resolve("src/test/java"), "OwnTest", own);
            test(main.resolve("src/test/java"), "ZOwnTest", own == null ? null : GOOD);
            Process run = started(main);
            String printed = new String(run.getInputStream().readAllBytes());
            d.holds("exit code " + run.waitFor(), run.waitFor() == 0 == passes);
            ran(printed, "Runs", shared);
            ran(printed, "ZRuns", shared);
            ran(printed, "OwnTest", own);
            ran(printed, "ZOwnTest", own);
        } finally {
            Dues.delete(dir);
        }
    }

    /** By bash, as a folder for temporary files may be one in which nothing is to be run. */
    private static Process started(Path main) throws IOException {
        return new ProcessBuilder("bash", ".ci/run").directory(main.toFile()).redirectErrorStream(true).start();
    }

    private static void ran(String printed, String name, String body) {
        boolean should = body != null && (name.startsWith("Z") || !body.equals(NO_JAVA));
        d.holds(name + (should ? " ran" : " did not run"), printed.lines().anyMatch(("ran " + name)::equals) == should);
    }

    private static void test(Path dir, String name, String body) throws IOException {
        Files.createDirectories(dir);
        if (body != null) {
            String source = "public final class NAME { public static void main(String[] args) { " + body + " } }";
            Files.writeString(dir.resolve(name + ".java"), source.replace("NAME", name));
        }
    }

    private static void withJavaAlone() throws IOException {
        d.part("with javac and java alone");
        String script = Files.readString(Path.of(".ci/run"));
        for (String tool : new String[] {"mvn", "gradle", "ant", "python", "python3", "node", "curl", "wget", "apt"}) {
            d.holds("no " + tool, !script.matches("(?s).*\\b" + tool + "\\b.*"));
        }
        d.holds("it can be run", Files.isExecutable(Path.of(".ci/run")));
    }

    private static void copy(String file, Path main) throws IOException {
        Files.createDirectories(main.resolve(file).getParent());
        Files.copy(Path.of(file), main.resolve(file), StandardCopyOption.COPY_ATTRIBUTES);
    }
}
