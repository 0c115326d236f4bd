import java.io.IOException;
import java.lang.reflect.Method;
import java.lang.reflect.Modifier;
import java.nio.file.Files;
import java.nio.file.Path;
import java.util.List;
import java.util.Set;
import java.util.TreeSet;
import java.util.stream.Collectors;
import java.util.stream.Stream;

/** README.md's example is the code below and does what is said there; it names all calls and tests. */
public final class ReadmeTest {
    private static final Path TESTS = Path.of("src/test/java");

    private ReadmeTest() {
    }

    private static void example() {
        // README begins
        KeyStore x = new KeyStore();
        x.begin();                         // TREES change in a TRANSACTION
        int t = x.tree();                  // a new TREE, without ENTRIES
        x.key('a', 1);                     // THE KEY becomes "a",
        x.value(0x6f6e65, 3);              // THE VALUE "one"
        x.put(t);                          // stored
        x.key('b', 1);                     // comes to the end: THE KEY becomes "ab"
        x.value(0, 0);                     // THE VALUE becomes empty
        x.put(t);
        x.commit();                        // both are lasting

        StringBuilder seen = new StringBuilder();
        x.key(0, 0);                       // THE KEY is empty: before all
        while (x.seek(t, true)) {          // the first ENTRY behind THE KEY becomes FOUND
            for (int i = 0; i < x.told(8); i += 8) {
                seen.append(Long.toHexString(x.found(1, i)));  // its VALUE, eight bytes at a time
            }
            seen.append('.');
            x.take();                      // THE KEY becomes that of FOUND
        }

        x.begin();
        int m = x.mark();
        x.drop(t);                         // two ENTRIES go,
        x.back(m);                         // and are there again
        x.drop(t);
        x.rollback();                      // here, too

        x.power(1, 0, 10);                 // the first write to the file is to be cut after ten bytes ..
        x.begin();
        x.drop(t);
        try {
            x.commit();                    // .. in this commit
        } catch (ArithmeticException e) {
            x.reopen();                    // it was OFF; what is lasting is there: TREE t
        }
        // README ends
        Expect.yes("seen: " + seen, seen.toString().equals("6f6e65.."));
        Expect.yes("TREE t has both ENTRIES", Steps.all(x, t).equals("a=one ab= "));
        Expect.same("a TRANSACTION is open", x.told(1), 0);
        Expect.same("check", x.check(), 0);
    }

    /** The lines behind the one that holds a text, up to the next that holds another. */
    private static String lines(Path file, String begin, String end) throws IOException {
        List<String> lines = Files.readAllLines(file).stream().map(String::strip).collect(Collectors.toList());
        int from = lines.indexOf(begin) + 1;
        List<String> rest = lines.subList(from, lines.size());
        return String.join("\n", rest.subList(0, Math.max(rest.indexOf(end), 0)));
    }

    private static void exampleIsTheReadmes(Path readme) throws IOException {
        String here = lines(TESTS.resolve("ReadmeTest.java"), "// README begins", "// README ends");
        Expect.yes("there is an example", !here.isEmpty());
        Expect.yes("the example is README.md's", here.equals(lines(readme, "```java", "```")));
    }

    private static void callsAreNamed(String text) {
        for (Method method : KeyStore.class.getDeclaredMethods()) {
            boolean isCall = Modifier.isPublic(method.getModifiers());
            Expect.yes("README.md tells of " + method, !isCall || text.contains("`" + method.getName() + "("));
        }
    }

    private static void testsAreNamed(String text) throws IOException {
        Set<String> named = text.lines().filter(line -> line.matches("\\| \\w+Test \\|.*"))
            .map(line -> line.split(" ")[1]).collect(Collectors.toCollection(TreeSet::new));
        try (Stream<Path> files = Files.list(TESTS)) {
            Set<String> there = files.map(file -> file.getFileName().toString()).filter(name -> name.endsWith("Test.java"))
                .map(name -> name.replace(".java", "")).collect(Collectors.toCollection(TreeSet::new));
            Expect.yes("the tests " + there + ", named: " + named, there.equals(named));
        }
        Expect.yes("README.md tells of .ci/run", text.contains(".ci/run"));
    }

    public static void main(String[] args) throws IOException {
        Path readme = Path.of("README.md");
        String text = Files.readString(readme);
        example();
        exampleIsTheReadmes(readme);
        callsAreNamed(text);
        testsAreNamed(text);
        Expect.end("ReadmeTest");
    }
}
