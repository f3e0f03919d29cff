import java.io.IOException;
import java.lang.reflect.Method;
import java.lang.reflect.Modifier;
import java.net.URL;
import java.net.URLClassLoader;
import java.nio.file.DirectoryStream;
import java.nio.file.Files;
import java.nio.file.Path;
import java.util.ArrayList;
import java.util.List;
import java.util.Set;
import java.util.TreeSet;
import java.util.regex.Matcher;
import java.util.regex.Pattern;
import javax.tools.ToolProvider;

/** README.md: the calls that it shows answer what it writes behind them, and the tests that it tells of are those there are. */
final class ReadmeTest {
    private static final Path TESTS = Path.of("src/test/java");
    private static final Pattern BLOCK = Pattern.compile("(?s)```java\n(.*?)```");
    /** A line with a call and what it answers: a number, a constant's name or a variable's. */
    private static final Pattern CALL = Pattern.compile("\\s*(x\\.(\\w+)\\(.*\\)); +// (-?\\d+|[A-Z]+|[a-z])\\b.*");
    /** The program is told apart from the tests by its own class loader, so it keeps its findings itself. */
    private static final String HEAD = "public final class ReadmeProgram {\n"
        + "public static String wrong = \"\";\n"
        + "private static void answer(String line, long got, long want) {\n"
        + "if (got != want) wrong += line + \"   <- answered \" + got + \"\\n\";\n"
        + "}\n"
        + "public static void run() {\n";

    private static final List<String> wrong = new ArrayList<>();

    public static void main(String[] args) throws Exception {
        String readme = Files.readString(Path.of("README.md"));
        Set<String> shown = new TreeSet<>();
        runProgram(program(readme, shown));
        check(shown.equals(face()), "it shows " + shown + " of " + face());
        tests(readme);
        wrong.forEach(System.out::println);
        System.out.println(shown.size() + " methods are shown, " + wrong.size() + " faults of the page");
        System.exit(wrong.isEmpty() ? 0 : 1);
    }

    private static void check(boolean is, String otherwise) {
        if (!is) {
            wrong.add(otherwise);
        }
    }

    private static Set<String> face() {
        Set<String> face = new TreeSet<>();
        for (Method m : ClockWakers.class.getDeclaredMethods()) {
            if (Modifier.isPublic(m.getModifiers())) {
                face.add(m.getName());
            }
        }
        return face;
    }

    /** All that the page shows, in which each call's answer is compared with what is written behind it. */
    private static String program(String readme, Set<String> shown) {
        StringBuilder b = new StringBuilder(HEAD);
        Matcher blocks = BLOCK.matcher(readme);
        while (blocks.find()) {
            for (String line : blocks.group(1).split("\n")) {
                Matcher call = CALL.matcher(line);
                if (call.matches()) {
                    shown.add(call.group(2));
                    String due = Character.isUpperCase(call.group(3).charAt(0)) ? "ClockWakers." + call.group(3) : call.group(3);
                    b.append("answer(\"").append(line.strip()).append("\", ").append(call.group(1)).append(", ").append(due).append(");\n");
                } else {
                    check(!line.contains("x."), "a call with no answer behind it: " + line);
                    b.append(line).append('\n');
                }
            }
        }
        return b.append("}\n}\n").toString();
    }

    private static void runProgram(String program) throws Exception {
        Path folder = Files.createTempDirectory("readme");
        Path source = folder.resolve("ReadmeProgram.java");
        Files.writeString(source, program);
        int failed = ToolProvider.getSystemJavaCompiler().run(null, null, null,
            "-cp", System.getProperty("java.class.path"), "-d", folder.toString(), source.toString());
        check(failed == 0, "what it shows does not compile");
        if (failed == 0) {
            try (URLClassLoader loader = new URLClassLoader(new URL[] {folder.toUri().toURL()})) {
                Class<?> shown = loader.loadClass("ReadmeProgram");
                shown.getMethod("run").invoke(null);
                String told = (String) shown.getField("wrong").get(null);
                check(told.isEmpty(), told.strip());
            }
        }
        remove(folder);
    }

    private static void remove(Path folder) throws IOException {
        try (DirectoryStream<Path> files = Files.newDirectoryStream(folder)) {
            for (Path file : files) {
                Files.delete(file);
            }
        }
        Files.delete(folder);
    }

    private static void tests(String readme) throws IOException {
        Set<String> there = new TreeSet<>();
        try (DirectoryStream<Path> files = Files.newDirectoryStream(TESTS, "*Test.java")) {
            for (Path file : files) {
                there.add(file.getFileName().toString().replace(".java", ""));
            }
        }
        Set<String> told = new TreeSet<>();
        Matcher names = Pattern.compile("`(\\w+Test)`").matcher(readme);
        while (names.find()) {
            told.add(names.group(1));
        }
        check(told.equals(there), "it tells of " + told + ", there are " + there);
    }
}
