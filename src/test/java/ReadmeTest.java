import java.io.ByteArrayOutputStream;
import java.io.IOException;
import java.io.PrintStream;
import java.lang.reflect.Method;
import java.nio.charset.StandardCharsets;
import java.nio.file.Files;
import java.nio.file.Path;
import java.util.ArrayList;
import java.util.List;
import java.util.TreeSet;
import java.util.regex.Matcher;
import java.util.regex.Pattern;

/** README.md's example is a file that runs, prints what stands there and uses the whole face. */
public final class ReadmeTest {
    private static final Path README = Path.of("README.md");
    private static final Path EXAMPLE = Path.of("src/test/java/ReadmeExample.java");
    private static final Pattern METHOD_LINE = Pattern.compile("\\| `(\\w+)\\(([^)]*)\\)` \\|[^|]+\\|([^|]*)\\|");

    public static void main(String[] args) throws IOException {
        Check check = new Check();
        String readme = Files.readString(README);
        String example = Files.readString(EXAMPLE);
        compare(check, "README's example", block(readme, "java"), example);
        compare(check, "what README says that it prints", block(readme, "text"), printed());
        for (Method m : face()) {
            check.yes("the example uses " + m.getName(), example.contains("measures." + m.getName() + "("));
        }
        check.text("README's methods", toldBy(readme).toString(), dueOf(face()).toString());
        check.yes("README says how the tests are run", readme.contains("\n    .ci/run\n"));
        check.yes(".ci/run is there and may be run", Files.isExecutable(Path.of(".ci/run")));
        check.finish();
    }

    /** Line by line, so that a fault tells the line and not the whole text. */
    private static void compare(Check check, String what, String got, String want) {
        String[] gotLines = got.split("\n", -1);
        String[] wantLines = want.split("\n", -1);
        check.due(what + ": lines", gotLines.length, wantLines.length);
        for (int i = 0; i < gotLines.length && i < wantLines.length; i++) {
            check.text(what + ": line " + (i + 1), gotLines[i], wantLines[i]);
        }
    }

    private static List<Method> face() {
        List<Method> face = new ArrayList<>();
        for (Method m : MeasureRows.class.getMethods()) {
            if (m.getDeclaringClass() == MeasureRows.class) {
                face.add(m);
            }
        }
        return face;
    }

    /** The one block of that language, or why there is none. */
    private static String block(String readme, String language) {
        String opening = "\n```" + language + "\n";
        int from = readme.indexOf(opening);
        if (from < 0 || from != readme.lastIndexOf(opening)) {
            return "not one block of " + language;
        }
        int begin = from + opening.length();
        int end = readme.indexOf("```\n", begin);
        return end < 0 ? "a block without an end" : readme.substring(begin, end);
    }

    private static String printed() {
        PrintStream usual = System.out;
        ByteArrayOutputStream bytes = new ByteArrayOutputStream();
        System.setOut(new PrintStream(bytes, true, StandardCharsets.UTF_8));
        try {
            ReadmeExample.main(new String[0]);
        } finally {
            System.setOut(usual);
        }
        return bytes.toString(StandardCharsets.UTF_8).replace(System.lineSeparator(), "\n");
    }

    /** Each method that README's table names, with how many parameters and what it throws. */
    private static TreeSet<String> toldBy(String readme) {
        TreeSet<String> told = new TreeSet<>();
        Matcher line = METHOD_LINE.matcher(readme);
        while (line.find()) {
            told.add(line.group(1) + " " + line.group(2).split(",").length + " "
                    + line.group(3).replace("`", "").replace(" ", ""));
        }
        return told;
    }

    private static TreeSet<String> dueOf(List<Method> face) {
        TreeSet<String> due = new TreeSet<>();
        for (Method m : face) {
            List<String> thrown = new ArrayList<>();
            for (Class<?> c : m.getExceptionTypes()) {
                thrown.add(c.getSimpleName());
            }
            due.add(m.getName() + " " + m.getParameterCount() + " " + String.join(",", thrown));
        }
        return due;
    }
}
