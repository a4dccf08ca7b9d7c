import java.io.File;
import java.io.IOException;
import java.nio.file.Files;
import java.nio.file.Path;
import java.util.Set;
import java.util.TreeSet;
import java.util.concurrent.TimeUnit;
import java.util.regex.Matcher;
import java.util.regex.Pattern;

/** README.md: what it shows of the use of the class, and how it says the tests are run, is so. */
public final class ReadmeTest {
    private static final Path TESTS = Path.of("src/test/java");

    public static void main(String[] args) {
        Check.run(ReadmeTest::useIsAsShown,
                ReadmeTest::allCallsAreTold,
                ReadmeTest::scriptForAllTests,
                ReadmeTest::commandForOneTest,
                ReadmeTest::allTestsAreNamed,
                ReadmeTest::allClassesAreNamed);
    }

    private static void useIsAsShown() {
        Check.of("README.md", "Use");
        try {
            Path place = Files.createTempDirectory("readme");
            Files.writeString(place.resolve("Use.java"),
                    "class Use { public static void main(String[] args) {\n" + blocks("java") + "} }");
            String classes = new File(System.getProperty("java.class.path")).getAbsolutePath();
            Check.same("what it prints", printed(place, "java", "-cp", classes, "Use.java"), blocks("text"));
            remove(place.toFile());
        } catch (IOException e) {
            throw new IllegalStateException(e);
        }
    }

    private static void allCallsAreTold() {
        Check.of("README.md", "| call | answer | throws |");
        Check.same("the calls", found("(?m)^\\| `(\\w+)\\("), Set.of("page", "feed", "restart", "waiting", "out", "take",
                "away", "about", "stream", "entry"));
    }

    private static void scriptForAllTests() {
        Check.of("README.md", "All tests of the project, and every test under `../shared/tests`");
        String script = blocks("sh").lines().findFirst().orElse("");
        Check.same("the script", script, ".ci/run");
        Check.same("it can be run", Files.isExecutable(Path.of(script)), true);
    }

    private static void commandForOneTest() {
        Check.of("README.md", "One test alone");
        String command = blocks("sh").lines().skip(1).findFirst().orElse("");
        try {
            // What the command builds is not to be left in the project.
            Path place = Files.createTempDirectory("readme");
            Files.createSymbolicLink(place.resolve("src"), Path.of("src").toAbsolutePath());
            Check.same(command, printed(place, "sh", "-c", command), "all is as due\n");
            Files.delete(place.resolve("src"));
            remove(place.toFile());
        } catch (IOException e) {
            throw new IllegalStateException(e);
        }
    }

    private static void allTestsAreNamed() {
        Check.of("README.md", "no test and no class is left out");
        Set<String> due = new TreeSet<>();
        for (String name : TESTS.toFile().list()) {
            if (name.endsWith("Test.java")) {
                due.add(name.replace(".java", ""));
            }
        }
        Check.same("the tests", found("`(\\w+Test)`"), due);
    }

    private static void allClassesAreNamed() {
        Check.of("README.md", "no test and no class is left out");
        Set<String> due = new TreeSet<>();
        for (Class<?> type : PageServer.class.getDeclaredClasses()) {
            due.add(type.getSimpleName());
        }
        Matcher inside = Pattern.compile("(?s)## Inside\n(.*?)\n\n[^|]*## Tests").matcher(readme());
        Set<String> named = new TreeSet<>();
        if (inside.find()) {
            collect(named, "`(\\w+)`", inside.group(1));
        }
        Check.same("the classes", named, due);
    }

    // ---- what stands in the file

    private static String readme() {
        try {
            return Files.readString(Path.of("README.md"));
        } catch (IOException e) {
            throw new IllegalStateException(e);
        }
    }

    /** All blocks of this kind, one behind the other. */
    private static String blocks(String kind) {
        StringBuilder text = new StringBuilder();
        Matcher block = Pattern.compile("(?s)```" + kind + "\n(.*?)```\n").matcher(readme());
        while (block.find()) {
            text.append(block.group(1));
        }
        return text.toString();
    }

    private static Set<String> found(String pattern) {
        Set<String> all = new TreeSet<>();
        collect(all, pattern, readme());
        return all;
    }

    private static void collect(Set<String> all, String pattern, String text) {
        Matcher one = Pattern.compile(pattern).matcher(text);
        while (one.find()) {
            all.add(one.group(1));
        }
    }

    /** What the command prints, and how it ended if not well. */
    private static String printed(Path place, String... command) throws IOException {
        Process process = new ProcessBuilder(command).directory(place.toFile())
                .redirectError(ProcessBuilder.Redirect.INHERIT).start();
        String text = new String(process.getInputStream().readAllBytes());
        try {
            if (!process.waitFor(60, TimeUnit.SECONDS)) {
                return text + "it did not end";
            }
        } catch (InterruptedException e) {
            return text + "it was broken off";
        }
        return process.exitValue() == 0 ? text : text + "exit code " + process.exitValue();
    }

    private static void remove(File place) {
        File[] held = place.listFiles();
        for (File one : held == null ? new File[0] : held) {
            remove(one);
        }
        place.delete();
    }
}
