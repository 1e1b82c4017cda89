import java.io.IOException;
import java.nio.file.Files;
import java.nio.file.Path;

/** The example of README.md, line by line, with the answers that it tells. */
public final class ReadmeTest {
    private ReadmeTest() {
    }

    public static void main(String[] args) throws IOException {
        example();
        quoted();
        Check.end();
    }

    private static void example() {
        NameNotes notes = new NameNotes();
        Check.feed(notes, "tune x 5 2 7 1; tune y 5 2 9 1; clue c x y; person a; person b; knows a x 9; knows b y 6;");
        int lines = notes.studio();
        long above = notes.odds(1, 1, 0, 0);
        long below = notes.odds(1, 1, 0, 1);
        int bid = notes.best(0, 1, 0, 0);

        Check.feed(notes, "clue c; a 2; b 1; a name;");
        int wrong = notes.evening();
        int namer = notes.heard(3);

        Check.feed(notes, "in c and not sure a");
        int ones = notes.sentence();
        int many = notes.said(NameNotes.NONE);
        int first = notes.said(0);

        Check.feed(notes, "tune x 5;");
        int fault = notes.studio();
        int kind = notes.fault();

        boolean taught = notes.teach(1, 0, 9);
        int left = notes.undo();

        Check.due("lines", lines, 7);
        Check.due("above", above, 1);
        Check.due("below", below, 3);
        Check.due("bid", bid, 9);
        Check.due("wrong", wrong, -1);
        Check.due("namer", namer, 0);
        Check.due("ones", ones, 3);
        Check.due("many", many, 1);
        Check.due("first", first, 1);
        Check.due("fault", fault, -9);
        Check.due("kind", kind, 1);
        Check.due("taught", taught, true);
        Check.due("left", left, 0);
    }

    /** Each line of the example is one of this test, its answer that of the check below. */
    private static void quoted() throws IOException {
        String mine = Files.readString(Path.of("src/test/java/ReadmeTest.java"));
        String[] blocks = Files.readString(Path.of("README.md")).split("```java\n");
        Check.due("examples", blocks.length > 1, true);
        for (int i = 1; i < blocks.length; i++) {
            for (String line : blocks[i].substring(0, blocks[i].indexOf("```")).split("\n")) {
                String[] parts = line.split("; +// ");
                String name = parts[0].replaceAll("^\\w+ (\\w+) =.*", "$1");
                boolean told = parts.length == 1 || mine.contains("Check.due(\"" + name + "\", " + name + ", "
                        + parts[1].replaceAll("[:,].*", "") + ");");
                Check.due("the line '" + line + "'", mine.contains(parts[0].strip()) && told, true);
            }
        }
    }
}
