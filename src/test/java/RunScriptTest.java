import java.io.IOException;
import java.nio.file.Files;
import java.nio.file.Path;
import java.util.Comparator;
import java.util.List;
import java.util.stream.Stream;

/** .ci/run in small projects made for it: it fails where one test fails or does not compile, and passes where none does. */
final class RunScriptTest {
    private static final String PASSES = "public final class %s { public static void main(String[] a) { new ClockWakers(); } }\n";
    private static final String FAILS = "public final class %s { public static void main(String[] a) { System.exit(1); } }\n";
    private static final String THROWS = "public final class %s { public static void main(String[] a) { throw new IllegalStateException(); } }\n";
    private static final String NO_JAVA = "public final class %s { int }\n";

    private static final Path SCRIPT = Path.of(".ci/run");

    private static int wrong = 0;

    public static void main(String[] args) throws Exception {
        if (!Files.isExecutable(SCRIPT)) {
            wrong++;
            System.out.println(SCRIPT + " is not executable");
        }
        holds("all pass", 0, "5 passed, 0 failed", PASSES, PASSES);
        holds("one of the project's fails", 1, "4 passed, 1 failed", FAILS, PASSES);
        holds("one of the project's throws", 1, "4 passed, 1 failed", THROWS, PASSES);
        holds("one of the project's does not compile", 1, "2 passed, 1 failed", NO_JAVA, PASSES);
        holds("one of the shared ones fails", 1, "4 passed, 1 failed", PASSES, FAILS);
        holds("one of the shared ones does not compile", 1, "4 passed, 1 failed", PASSES, NO_JAVA);
        holds("there are no shared ones", 1, "3 passed, 1 failed", PASSES, null);
        System.out.println(wrong + " faults of .ci/run");
        System.exit(wrong == 0 ? 0 : 1);
    }

    /** A project of three tests of its own, the second of which is told, and of two shared ones, the first of which is told. */
    private static void holds(String what, int due, String counts, String own, String shared) throws Exception {
        Path folder = Files.createTempDirectory("runscript");
        Path project = folder.resolve("project");
        Path script = project.resolve(".ci/run");
        Path tests = project.resolve("src/test/java");
        Path main = project.resolve("src/main/java");
        Path beside = folder.resolve("shared/tests");
        for (Path made : List.of(script.getParent(), tests, main, beside)) {
            Files.createDirectories(made);
        }
        Files.copy(SCRIPT, script);
        Files.writeString(main.resolve("ClockWakers.java"), "public final class ClockWakers { }\n");
        write(tests, "FirstTest", PASSES);
        write(tests, "SecondTest", own);
        write(tests, "ThirdTest", PASSES);
        write(tests, "Helper", FAILS);
        if (shared != null) {
            write(beside, "SharedRuns", shared);
            write(beside, "OtherRuns", PASSES);
        }
        answer(what, script, due, counts);
        remove(folder);
    }

    private static void write(Path folder, String name, String form) throws IOException {
        Files.writeString(folder.resolve(name + ".java"), String.format(form, name));
    }

    private static void answer(String what, Path script, int due, String counts) throws Exception {
        Process process = new ProcessBuilder("sh", script.toString()).redirectErrorStream(true).start();
        String told = new String(process.getInputStream().readAllBytes());
        int code = process.waitFor();
        if (code != due || !told.endsWith(counts + "\n")) {
            wrong++;
            System.out.println(what + ": it ended with " + code + ", due is " + due + " and \"" + counts + "\"; it told\n" + told);
        }
    }

    private static void remove(Path folder) throws IOException {
        try (Stream<Path> all = Files.walk(folder)) {
            for (Path path : all.sorted(Comparator.reverseOrder()).toList()) {
                Files.delete(path);
            }
        }
    }
}
