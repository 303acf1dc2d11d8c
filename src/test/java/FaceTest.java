import java.io.IOException;
import java.lang.reflect.Constructor;
import java.lang.reflect.Field;
import java.lang.reflect.Method;
import java.lang.reflect.Modifier;
import java.nio.file.Files;
import java.nio.file.Path;
import java.util.Set;
import java.util.TreeSet;

/** The public face is the document's and nothing more. */
public final class FaceTest {
    private static final Path DOCUMENT = Path.of("../shared/DOC.md");
    private static final String[] METHODS = {
        "boolean member(int,int)",
        "boolean ring(int,int) throws IndexOutOfBoundsException",
        "boolean has(int,int) throws IndexOutOfBoundsException",
        "int row(int,int,int,int,int,int,int) throws IllegalArgumentException,IllegalStateException",
        "boolean exclude(int,int)",
        "boolean condition(int,int)",
        "int end(int,int,int) throws IndexOutOfBoundsException,IllegalArgumentException,IllegalStateException",
        "void papers(int)",
        "int apply(int,int,int,int) throws IllegalArgumentException",
        "int at(int)",
        "int scan(int,int,int) throws IllegalArgumentException",
        "int change(int,int,int) throws IllegalArgumentException",
        "int look(int,int) throws IndexOutOfBoundsException",
        "int count(int)",
    };

    private static String names(Class<?>[] classes) {
        StringBuilder text = new StringBuilder();
        for (Class<?> c : classes) {
            text.append(text.length() == 0 ? "" : ",").append(c.getSimpleName());
        }
        return text.toString();
    }

    private static String told(Method m) {
        String thrown = names(m.getExceptionTypes());
        return m.getReturnType().getSimpleName() + " " + m.getName() + "(" + names(m.getParameterTypes()) + ")"
                + (thrown.isEmpty() ? "" : " throws " + thrown);
    }

    /** The methods as the document's face has them, without the parameters' names. */
    private static Set<String> documentsMethods() throws IOException {
        Set<String> methods = new TreeSet<>();
        for (String line : Files.readAllLines(DOCUMENT)) {
            if (line.matches("    public \\w+ \\w+\\(.*;")) {
                methods.add(line.trim().replaceFirst("^public ", "").replaceFirst(";$", "")
                        .replaceAll("int \\w+(?=[,)])", "int").replace(", ", ","));
            }
        }
        return methods;
    }

    private static void compareWithDocument(Check check) throws IOException {
        check.text("the document's methods", documentsMethods().toString(),
                new TreeSet<>(Set.of(METHODS)).toString());
        String document = Files.readString(DOCUMENT);
        for (String constant : new String[] {"NONE = " + MeasureRows.NONE, "OPEN = " + MeasureRows.OPEN}) {
            check.yes("the document has " + constant, document.contains("public static final int " + constant + ";"));
        }
    }

    public static void main(String[] args) throws IOException {
        Check check = new Check();
        if (Files.exists(DOCUMENT)) {
            compareWithDocument(check);
        } else {
            System.out.println("no " + DOCUMENT + ": the face is not compared with it");
        }
        Class<?> c = MeasureRows.class;
        check.yes("the class is public", Modifier.isPublic(c.getModifiers()));
        check.yes("the class is final", Modifier.isFinal(c.getModifiers()));

        Set<String> methods = new TreeSet<>();
        Set<String> publicNames = new TreeSet<>();
        for (Method m : c.getDeclaredMethods()) {
            if (!Modifier.isPrivate(m.getModifiers())) {
                check.yes(m.getName() + " is public", Modifier.isPublic(m.getModifiers()));
                methods.add(told(m));
                publicNames.add(m.getName());
            }
        }
        check.text("the methods", methods.toString(), new TreeSet<>(Set.of(METHODS)).toString());
        for (Method m : c.getDeclaredMethods()) {
            if (Modifier.isPrivate(m.getModifiers())) {
                check.no(m.getName() + " bears a public name", publicNames.contains(m.getName()));
            }
        }

        Set<String> fields = new TreeSet<>();
        for (Field f : c.getDeclaredFields()) {
            if (!Modifier.isPrivate(f.getModifiers())) {
                fields.add(Modifier.toString(f.getModifiers()) + " " + f.getType() + " " + f.getName());
            }
        }
        check.text("the fields", fields.toString(),
                "[public static final int NONE, public static final int OPEN]");
        check.due("NONE", MeasureRows.NONE, -1);
        check.due("OPEN", MeasureRows.OPEN, 20000);

        Constructor<?>[] makers = c.getDeclaredConstructors();
        check.due("constructors", makers.length, 1);
        check.yes("the constructor is public", Modifier.isPublic(makers[0].getModifiers()));
        check.due("the constructor's parameters", makers[0].getParameterCount(), 0);
        for (Class<?> inner : c.getDeclaredClasses()) {
            check.yes(inner.getName() + " is static", Modifier.isStatic(inner.getModifiers()));
            check.no(inner.getName() + " is public", Modifier.isPublic(inner.getModifiers()));
        }
        check.finish();
    }
}
