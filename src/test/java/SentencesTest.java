import java.io.IOException;
import java.nio.file.DirectoryStream;
import java.nio.file.Files;
import java.nio.file.Path;
import java.util.ArrayList;
import java.util.List;
import java.util.regex.Matcher;
import java.util.regex.Pattern;

/** Whether the tests name each sentence of the document's promises and terms, and none that the document doesn't say. */
final class SentencesTest {
    private static final Path DOCUMENT = Path.of("../shared/DOC.md"), TESTS = Path.of("src/test/java");
    private static final int PROMISES = 37;
    /** A call of Due.promise with its number and its sentence. */
    private static final Pattern NAMED = Pattern.compile("Due\\.promise\\((\\d+), \"([^\"]*)\"\\)");
    /** What is no sentence of a promise: its call's face. Of the terms: their headings, and where the interface has its headings. */
    private static final String FACE = "^`[^`]*`:", HEADINGS = "## Terms|==== \\d|```text|```|Ahead of the calls [^\n]*";

    private static final List<String> wrong = new ArrayList<>();

    public static void main(String[] args) throws IOException {
        String document = Files.readString(DOCUMENT);
        String terms = between(document, "## Terms", "## Promise 1:");
        List<String> all = new ArrayList<>();
        for (int number = 1; number <= PROMISES; number++) {
            String line = promise(document, number);
            List<String> named = namedBy(number);
            for (String sentence : named) {
                check(line.contains(sentence) || terms.contains(sentence), "promise " + number + " does not say: " + sentence);
            }
            told("promise " + number, rest(line.replaceFirst(FACE, ""), named));
            all.addAll(named);
        }
        told("the terms", rest(terms.replaceAll(HEADINGS, ""), all));
        wrong.forEach(System.out::println);
        System.out.println(all.size() + " sentences are named, " + wrong.size() + " faults of them");
        System.exit(wrong.isEmpty() ? 0 : 1);
    }

    private static void check(boolean is, String otherwise) {
        if (!is) {
            wrong.add(otherwise);
        }
    }

    private static String between(String document, String begin, String end) {
        int from = document.indexOf(begin);
        int to = document.indexOf(end, from + 1);
        check(from >= 0 && to >= 0, "the document has no " + begin + " ahead of " + end);
        return from >= 0 && to >= 0 ? document.substring(from, to) : "";
    }

    private static String promise(String document, int number) {
        String section = between(document, "## Promise " + number + ":", "\n## ");
        return section.substring(section.indexOf('\n') + 1).strip();
    }

    private static List<String> namedBy(int number) throws IOException {
        List<String> named = new ArrayList<>();
        try (DirectoryStream<Path> files = Files.newDirectoryStream(TESTS, "*Test.java")) {
            for (Path file : files) {
                Matcher m = NAMED.matcher(Files.readString(file));
                while (m.find()) {
                    if (Integer.parseInt(m.group(1)) == number) {
                        named.add(m.group(2));
                    }
                }
            }
        }
        return named;
    }

    /** The text without what is named of it. */
    private static String rest(String text, List<String> named) {
        StringBuilder b = new StringBuilder(text);
        for (String sentence : named) {
            for (int at = text.indexOf(sentence); at >= 0; at = text.indexOf(sentence, at + 1)) {
                for (int k = at; k < at + sentence.length(); k++) {
                    b.setCharAt(k, ' ');
                }
            }
        }
        return b.toString();
    }

    private static void told(String where, String rest) {
        Matcher m = Pattern.compile("\\w[^\n]*").matcher(rest);
        while (m.find()) {
            check(false, where + ": no test names: " + m.group().strip());
        }
    }
}
