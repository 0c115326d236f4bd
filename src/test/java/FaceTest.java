import java.lang.reflect.Constructor;
import java.lang.reflect.Field;
import java.lang.reflect.Method;
import java.lang.reflect.Modifier;
import java.nio.file.Files;
import java.nio.file.Path;
import java.util.Arrays;
import java.util.HashSet;
import java.util.List;
import java.util.Set;
import java.util.TreeSet;

/** The class has the document's face and no other, and its text keeps to what LANGUAGE.md lets in. */
public final class FaceTest {
    private static final String[] FACE = {
        "int key(long,int) IllegalArgumentException IllegalStateException",
        "int value(long,int) IllegalArgumentException IllegalStateException",
        "int fill(boolean,int,int) IllegalArgumentException IllegalStateException",
        "int tree() IllegalStateException",
        "int drop(int) IllegalStateException NoSuchElementException",
        "boolean put(int) IllegalStateException NoSuchElementException IllegalArgumentException",
        "boolean remove(int) IllegalStateException NoSuchElementException",
        "boolean seek(int,boolean) IllegalStateException NoSuchElementException",
        "int take() NoSuchElementException",
        "long found(int,int) IllegalArgumentException NoSuchElementException",
        "void begin() IllegalStateException",
        "void commit() IllegalStateException ArithmeticException",
        "void rollback() IllegalStateException",
        "int mark() IllegalStateException",
        "void back(int) IllegalStateException IndexOutOfBoundsException",
        "void keep(int) IllegalStateException IndexOutOfBoundsException",
        "void power(int,int,int) IllegalArgumentException",
        "int reopen() ArithmeticException",
        "int told(int) IllegalArgumentException",
        "int check() IllegalStateException",
    };
    private static final String[] REFUSED = {"->", "::", "finally", "synchronized", "assert ", "try ", "catch ",
        "Exact(", "while (", "do {", "package ", "static {", "protected ", "double ", "float ", "System.out", "Random",
        "getMessage", "toString", "hashCode", "@", "\" +", "+ \""};

    private FaceTest() {
    }

    private static String written(Method method) {
        StringBuilder text = new StringBuilder(method.getReturnType().getSimpleName());
        text.append(' ').append(method.getName()).append('(');
        for (int i = 0; i < method.getParameterTypes().length; i++) {
            text.append(i == 0 ? "" : ",").append(method.getParameterTypes()[i].getSimpleName());
        }
        text.append(')');
        for (Class<?> thrown : method.getExceptionTypes()) {
            text.append(' ').append(thrown.getSimpleName());
        }
        return text.toString();
    }

    private static void face() {
        Set<String> due = new TreeSet<>(Arrays.asList(FACE));
        Set<String> got = new TreeSet<>();
        Set<String> names = new HashSet<>();
        for (Method method : KeyStore.class.getDeclaredMethods()) {
            if (Modifier.isPublic(method.getModifiers())) {
                got.add(written(method));
                names.add(method.getName());
            } else {
                Expect.yes(method + " is private", Modifier.isPrivate(method.getModifiers()));
            }
        }
        Expect.yes("the face " + got, got.equals(due));
        for (Class<?> part : parts()) {
            for (Method method : part.getDeclaredMethods()) {
                boolean isFace = part == KeyStore.class && Modifier.isPublic(method.getModifiers());
                Expect.yes(method + " has a name of its own", isFace || !names.contains(method.getName()));
            }
        }
        Expect.yes("public and final", KeyStore.class.getModifiers() == (Modifier.PUBLIC | Modifier.FINAL));
        Constructor<?>[] constructors = KeyStore.class.getDeclaredConstructors();
        Expect.same("constructors", constructors.length, 1);
        Expect.yes("the constructor is public", Modifier.isPublic(constructors[0].getModifiers()));
        Expect.same("its parameters", constructors[0].getParameterCount(), 0);
    }

    private static List<Class<?>> parts() {
        List<Class<?>> parts = new java.util.ArrayList<>(List.of(KeyStore.class.getDeclaredClasses()));
        parts.add(KeyStore.class);
        return parts;
    }

    private static void parts(List<Class<?>> parts) {
        Expect.yes("at most twelve classes", parts.size() <= 12);
        for (Class<?> part : parts) {
            int fields = 0;
            for (Field field : part.getDeclaredFields()) {
                boolean constant = Modifier.isStatic(field.getModifiers());
                Expect.yes(field + " is private", Modifier.isPrivate(field.getModifiers()));
                Expect.yes(field + " is a constant", !constant || Modifier.isFinal(field.getModifiers()));
                fields += constant ? 0 : 1;
            }
            Expect.yes(part + " has at most twenty fields", fields <= 20);
            Expect.yes(part + " is static", part == KeyStore.class || Modifier.isStatic(part.getModifiers()));
            for (Method method : part.getDeclaredMethods()) {
                Expect.yes(method + " takes at most seven", method.getParameterCount() <= 7);
            }
        }
    }

    /** A method as the document's face has it, in the form of FACE; empty for another line. */
    private static String written(String line) {
        if (!line.matches(" +public \\w+ \\w+\\(.*\\).*;")) {
            return "";
        }
        return line.strip().replaceAll("public |throws |java\\.util\\.|;", "")
            .replaceAll("(\\w+) \\w+([,)])", "$1$2").replaceAll("\\((.*), (.*), (.*)\\)", "($1,$2,$3)")
            .replaceAll("\\((.*), (.*)\\)", "($1,$2)").replace(", ", " ");
    }

    /** FACE is the document's, if it is there to be held against. */
    private static void document() throws java.io.IOException {
        Path document = Path.of("../shared/DOC.md");
        if (!Files.exists(document)) {
            System.out.println("FaceTest: no " + document + " to hold the face against");
            return;
        }
        Set<String> due = new TreeSet<>();
        for (String line : Files.readAllLines(document)) {
            due.add(written(line));
        }
        due.remove("");
        Expect.yes("the document's face " + due, due.equals(new TreeSet<>(Arrays.asList(FACE))));
    }

    /** Comments are left out, as they hold words that the code may not. */
    private static void text() throws java.io.IOException {
        int imports = 0;
        int length = 0;
        for (String line : Files.readAllLines(Path.of("src/main/java/KeyStore.java"))) {
            String code = line.strip();
            if (code.startsWith("/*") || code.startsWith("*") || code.startsWith("//")) {
                continue;
            }
            for (String refused : REFUSED) {
                Expect.yes("without " + refused + ": " + code, !code.contains(refused));
            }
            imports += code.startsWith("import ") ? 1 : 0;
            Expect.yes("thrown: " + code, !code.contains("throw ") || code.matches("throw new \\w+\\(\"[^\"]*\"\\);"));
            Expect.yes("made: " + code, !code.contains("new ") || code.startsWith("throw ")
                || code.startsWith("private final ") || code.matches("(Nodes )?\\w+ = new \\w+\\(.*\\);"));
            length = code.isEmpty() ? 0 : length + 1;
            Expect.yes("at most sixty lines between blank ones: " + code, length <= 60);
        }
        Expect.same("imports", imports, 1);
    }

    public static void main(String[] args) throws java.io.IOException {
        face();
        document();
        parts(parts());
        text();
        Expect.end("FaceTest");
    }
}
