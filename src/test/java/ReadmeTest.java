import java.io.IOException;
import java.nio.file.Files;
import java.nio.file.Path;
import java.util.List;
import java.util.stream.Collectors;
import java.util.stream.Stream;

/** The example of README.md stands here too, line by line, and answers what it says; each test is named there. */
public final class ReadmeTest {
    private static final Path README = Path.of("README.md");
    private static final Path TESTS = Path.of("src/test/java");
    private static final List<String> STATEMENTS = List.of("where a < 3 & !(b = -1 | b > a) count",
            "where b = 0 set a = a - 1, b = a * 2", "max a", "min a", "sum a", "list a", "set b = 5");

    public static void main(String[] args) throws IOException {
        example();
        String here = withoutIndents(Files.readAllLines(TESTS.resolve("ReadmeTest.java")));
        Check.due("the example of README.md stands in this test", true, here.contains(withoutIndents(exampleOfReadme())));
        statements(Files.readString(README));
        everyTestIsNamed();
        Check.end();
    }

    private static void statements(String readme) {
        Driver d = Driver.table(2);
        for (String statement : STATEMENTS) {
            Check.due("README.md tells " + statement, true, readme.contains("   " + statement));
            d.tell(statement);
            Check.due("it is a statement: " + statement, "-1", d.place());
        }
    }

    private static void example() {
        BitLoom loom = new BitLoom();
        loom.field('a', 0, 4, false);        // a: bits 0 .. 3, values 0 .. 15
        loom.field('b', 4, 5, true);         // b: bits 4 .. 8, values -16 .. 15
        int one = loom.insert();             // 0, the lowest free word
        int two = loom.insert();             // 1
        loom.put(one, 'a', 3);
        loom.put(two, 'a', 12);

        loom.write(0x3d62207465732020L);     // "  set b=", eight characters, the first one lowest
        loom.write(0x352b61L);               // "a+5"
        int changed = loom.run();            // 1: how many words were changed
        int refused = loom.refused();        // 1: 12 + 5 does not fit b, so that word stays as it was
        int b = loom.get(one, 'b');          // 8

        loom.write(0x62207473696cL);         // "list b"
        int many = loom.run();               // 2
        int least = loom.listed(0);          // 1: the word with the least b

        int found = loom.search(15, 3, false);   // 1: the words whose bits 0 .. 3 are as in 3
        int first = loom.first();            // 0: the lowest of them, which responds no more

        loom.write(0x71206d7573L);           // "sum q"
        boolean failed = false;
        try {
            loom.run();
        } catch (IllegalArgumentException noStatement) {
            failed = true;
        }
        int place = loom.place();            // 4: where the text is wrong, there is no field q
        int length = loom.wipe();            // 5: the text stayed, and is empty now

        Check.due("the words", List.of(0, 1), List.of(one, two));
        Check.due("the set", List.of(1, 1, 8), List.of(changed, refused, b));
        Check.due("the list", List.of(2, 1), List.of(many, least));
        Check.due("the search", List.of(1, 0), List.of(found, first));
        Check.due("the fault", List.of(true, 4, 5), List.of(failed, place, length));
    }

    private static List<String> exampleOfReadme() throws IOException {
        List<String> lines = Files.readAllLines(README);
        int from = lines.indexOf("```java") + 1;
        int length = lines.subList(from, lines.size()).indexOf("```");
        Check.due("README.md has an example", true, from > 0 && length > 0);
        return lines.subList(from, from + Math.max(length, 0));
    }

    private static String withoutIndents(List<String> lines) {
        return lines.stream().map(String::trim).collect(Collectors.joining("\n"));
    }

    private static void everyTestIsNamed() throws IOException {
        String readme = Files.readString(README);
        try (Stream<Path> files = Files.list(TESTS)) {
            for (Path file : (Iterable<Path>) files.sorted()::iterator) {
                String name = file.getFileName().toString().replace(".java", "");
                Check.due("README.md names " + name, true, !name.endsWith("Test") || readme.contains("`" + name + "`"));
            }
        }
    }
}
