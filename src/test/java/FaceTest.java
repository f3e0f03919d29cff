import java.lang.reflect.Constructor;
import java.lang.reflect.Field;
import java.lang.reflect.Method;
import java.lang.reflect.Modifier;
import java.nio.file.Files;
import java.nio.file.Path;
import java.util.ArrayList;
import java.util.List;
import java.util.Set;
import java.util.TreeSet;
import java.util.regex.Matcher;
import java.util.regex.Pattern;

/** The public face of the document, and those rules of LANGUAGE.md that can be seen from the outside. */
final class FaceTest {
    private static final String[] FACE = {
        "int street 4", "int ofHouse 2", "int ofClock 2", "int drowse 2", "int tune 2", "int wall 1", "long hears 2",
        "int stroke 1", "int nights 1", "int stuff 1", "int ease 1", "int carry 2", "int season 5",
        "int round 2", "int from 2", "int settle 0", "int still 1", "int hush 1",
        "int reading 4", "int back 1", "int depths 1", "int kinds 1", "int louds 1", "int walls 0", "long odds 2",
        "int sheet 3", "int lose 1", "int put 3", "long cell 3", "int copy 5", "int tell 1", "int call 1", "int as 2",
        "int trace 0", "int fault 0", "int many 1"};
    private static final String[] BARRED = {
        "\\bthrow\\b", "\\btry\\b", "\\bcatch\\b", "\\bsynchronized\\b", "\\bassert\\b", "->", "::", "Exact\\b", "\\bnative\\b",
        "\\bThread\\b", "\\bRandom\\b", "\\bequals\\b", "\\bhashCode\\b", "\\btoString\\b", "\"\\s*\\+", "\\+\\s*\"", "\\bvar\\b"};

    private static final List<String> wrong = new ArrayList<>();

    public static void main(String[] args) throws Exception {
        methods();
        fields();
        classes();
        String source = Files.readString(Path.of("src/main/java/ClockWakers.java"));
        source(source);
        document(Files.readString(Path.of("../shared/DOC.md")), source);
        wrong.forEach(System.out::println);
        System.out.println(wrong.size() + " faults of the face");
        System.exit(wrong.isEmpty() ? 0 : 1);
    }

    private static void check(boolean is, String otherwise) {
        if (!is) {
            wrong.add(otherwise);
        }
    }

    private static void methods() {
        Set<String> face = new TreeSet<>(List.of(FACE));
        Set<String> names = new TreeSet<>();
        Set<String> publics = new TreeSet<>();
        for (Method m : ClockWakers.class.getDeclaredMethods()) {
            if (Modifier.isPublic(m.getModifiers())) {
                publics.add(m.getReturnType().getName() + " " + m.getName() + " " + m.getParameterCount());
                names.add(m.getName());
                check(!Modifier.isStatic(m.getModifiers()), m + " is static");
                for (Class<?> type : m.getParameterTypes()) {
                    check(type == int.class, m + " takes another type than int");
                }
            } else {
                check(Modifier.isPrivate(m.getModifiers()), m + " is neither public nor private");
            }
        }
        check(publics.equals(face), "the public methods are " + publics);
        List<Class<?>> all = new ArrayList<>(List.of(ClockWakers.class.getDeclaredClasses()));
        all.add(ClockWakers.class);
        for (Class<?> c : all) {
            for (Method m : c.getDeclaredMethods()) {
                check(m.getParameterCount() <= 7, m + " takes more than seven");
                check(Modifier.isPublic(m.getModifiers()) || !names.contains(m.getName()), m + " bears a public one's name");
            }
        }
        Constructor<?>[] constructors = ClockWakers.class.getDeclaredConstructors();
        check(constructors.length == 1 && constructors[0].getParameterCount() == 0
            && Modifier.isPublic(constructors[0].getModifiers()), "there is another constructor");
        int modifiers = ClockWakers.class.getModifiers();
        check(Modifier.isPublic(modifiers) && Modifier.isFinal(modifiers), "the class is not public and final");
    }

    private static void fields() throws Exception {
        Set<String> publics = new TreeSet<>();
        for (Field f : ClockWakers.class.getDeclaredFields()) {
            if (Modifier.isPublic(f.getModifiers())) {
                publics.add(f.getType().getName() + " " + f.getName() + " " + f.get(null));
            } else {
                check(Modifier.isPrivate(f.getModifiers()), f + " is neither public nor private");
            }
            check(!Modifier.isStatic(f.getModifiers()) || Modifier.isFinal(f.getModifiers()), f + " is static and not final");
        }
        check(publics.equals(Set.of("int UNKNOWN -1", "int OUTSIDE -2", "int STATE -3", "int FULL -4", "int NONE -9",
            "long LOST " + Long.MIN_VALUE)), "the constants are " + publics);
    }

    private static void classes() {
        Class<?>[] inside = ClockWakers.class.getDeclaredClasses();
        check(inside.length <= 11, "there are more than twelve classes");
        for (Class<?> c : inside) {
            int m = c.getModifiers();
            check(Modifier.isStatic(m) && !Modifier.isPublic(m) && !Modifier.isProtected(m), c + " is not static and hidden");
            int own = 0;
            for (Field f : c.getDeclaredFields()) {
                own += Modifier.isStatic(f.getModifiers()) ? 0 : 1;
            }
            check(own <= 20, c + " has more than twenty fields");
        }
    }

    /** The face as the document writes it, line by line, with the names of parameters, too. */
    private static void document(String document, String source) {
        int begin = document.indexOf("public final class ClockWakers {");
        int end = document.indexOf("\n}", begin);
        check(begin >= 0 && end >= 0, "the document has no face");
        Set<String> promised = new TreeSet<>();
        if (begin >= 0 && end >= 0) {
            for (String line : document.substring(begin, end).split("\n")) {
                promised.add(line.replaceFirst("\\);$", ") {"));
            }
        }
        Set<String> written = new TreeSet<>();
        for (String line : source.split("\n")) {
            if (line.stripLeading().startsWith("public ")) {
                written.add(line);
            }
        }
        check(promised.equals(written), "the document's face is " + promised + ", the source's " + written);
        headings(document, source);
    }

    /** Ahead of which calls the interface says what. */
    private static void headings(String document, String source) {
        Matcher m = Pattern.compile("Ahead of the calls `(\\w+)`.* the interface says: (---- .*)\\.\n").matcher(document);
        int found = 0;
        while (m.find()) {
            found++;
            Pattern heading = Pattern.compile("// " + m.group(2) + "\n\n    public \\w+ " + m.group(1) + "\\(");
            check(heading.matcher(source).find(), m.group(2) + " does not stand ahead of " + m.group(1));
        }
        check(found == 5, "the document has " + found + " headings of its interface");
    }

    private static void source(String text) {
        String code = text.replaceAll("(?s)/\\*.*?\\*/", " ").replaceAll("//[^\n]*", " ").replaceAll("'(\\\\.|[^'\\\\])'", "' '");
        for (String barred : BARRED) {
            Matcher m = Pattern.compile(barred).matcher(code);
            check(!m.find(), "the source has what is barred: " + barred);
        }
        Matcher imports = Pattern.compile("import\\s+([\\w.*]+)").matcher(code);
        while (imports.find()) {
            check(Set.of("java.util.Arrays", "java.util.ArrayList", "java.util.List").contains(imports.group(1)), "it imports " + imports.group(1));
        }
        methodLengths(text.split("\n"));
    }

    /** A method begins with a line that ends in ") {" below a class, and ends with a brace as far in. */
    private static void methodLengths(String[] lines) {
        Pattern begin = Pattern.compile("( {4}| {8})(?! |if|for|while|switch|else|do\\b|return)[\\w\\[\\] ]+\\(.*\\) \\{");
        for (int k = 0; k < lines.length; k++) {
            Matcher m = begin.matcher(lines[k]);
            if (m.matches()) {
                int end = k;
                while (end < lines.length - 1 && !lines[end].equals(m.group(1) + "}")) {
                    end++;
                }
                check(end - k < 60, "line " + (k + 1) + ": a method of more than sixty lines");
            }
        }
    }
}
