import java.io.IOException;
import java.lang.reflect.Method;
import java.nio.file.Files;
import java.nio.file.Path;
import java.util.ArrayList;
import java.util.List;
import java.util.TreeMap;
import java.util.stream.Stream;

/** Each test's words stand in the document, and each word of its terms and promises has a test. */
public final class DocumentTest {
    private static final Path DOCUMENT = Path.of("../shared/DOC.md");
    private static final Path TESTS = Path.of("src/test/java");

    public static void main(String[] args) throws Exception {
        if (!Files.exists(DOCUMENT)) {
            System.out.println("no " + DOCUMENT + ": the tests' words are not compared with it");
            return;
        }
        Check check = new Check();
        TreeMap<String, String> parts = parts(Files.readAllLines(DOCUMENT));
        TreeMap<String, boolean[]> quoted = new TreeMap<>();
        parts.forEach((heading, text) -> quoted.put(heading, new boolean[text.length()]));
        for (Class<?> tests : testClasses()) {
            String heading = tests.getAnnotation(Part.class).value();
            check.yes(tests.getName() + ": the heading \"" + heading + "\" is there", parts.containsKey(heading));
            for (Method test : Sentences.testsOf(tests)) {
                String words = test.getAnnotation(Says.class).value();
                check.yes(tests.getName() + "." + test.getName() + ": \"" + words + "\" is there",
                        mark(parts.getOrDefault(heading, ""), words, quoted.get(heading)));
            }
        }
        parts.forEach((heading, text) -> {
            if (heading.equals("Terms") || heading.startsWith("Promise ")) {
                check.text("under \"" + heading + "\" the words without a test", left(text, quoted.get(heading)), "");
            }
        });
        check.finish();
    }

    private static List<Class<?>> testClasses() throws IOException, ClassNotFoundException {
        List<Class<?>> found = new ArrayList<>();
        try (Stream<Path> files = Files.list(TESTS)) {
            for (Path file : files.sorted().toList()) {
                Class<?> c = Class.forName(file.getFileName().toString().replace(".java", ""));
                if (c.isAnnotationPresent(Part.class)) {
                    found.add(c);
                }
            }
        }
        return found;
    }

    /** The text under each heading, in one line, without the signature that a promise begins with. */
    private static TreeMap<String, String> parts(List<String> lines) {
        TreeMap<String, String> parts = new TreeMap<>();
        String heading = "";
        for (String line : lines) {
            if (line.startsWith("## ")) {
                heading = line.substring(3).trim();
            } else {
                parts.merge(heading, line.trim(), (a, b) -> (a + " " + b).trim());
            }
        }
        parts.replaceAll((h, text) -> h.startsWith("Promise ") ? text.replaceFirst("^`[^`]*`: *", "") : text);
        return parts;
    }

    private static boolean mark(String text, String words, boolean[] quoted) {
        int at = text.indexOf(words);
        boolean found = at >= 0;
        while (at >= 0) {
            for (int i = at; i < at + words.length(); i++) {
                quoted[i] = true;
            }
            at = text.indexOf(words, at + 1);
        }
        return found;
    }

    private static String left(String text, boolean[] quoted) {
        StringBuilder left = new StringBuilder();
        for (int i = 0; i < text.length(); i++) {
            if (!quoted[i] && Character.isLetterOrDigit(text.charAt(i))) {
                left.append(text.charAt(i));
            }
        }
        return left.toString();
    }
}
