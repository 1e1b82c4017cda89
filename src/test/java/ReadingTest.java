import java.util.Random;

/** Promises 4, 5, 47 and 55: texts that were spoilt at random, read by a second reader. */
public final class ReadingTest {
    private static final String STUDIO = "tune x 5 2 7 1;tune y 24 9;clue c y x;clue d y;person a;person b;knows a x 9;"
            + "knows b y 0;dare b 0;from 4;";
    private static final String[] STUDIOS = {STUDIO, "tune x 1 1 1 1 1 1 1 1 1 1 1 1 1 1 1 1 1 1;clue k x;",
        "tune p 1 1;tune q 1 1;tune r 1 1;tune s 1 1;tune t 1 1;tune u 1 1;tune v 1 1;tune w 1 1;tune x 1 1;",
        "tune x 1 1;clue a x;clue b x;clue c x;clue d x;clue e x;clue f x;", "person a;person b;person c;person d;person e;"};
    private static final String[] EVENINGS = {"clue c;a 4;b 3;a name;", "clue d;b 4;a 1;b name;", "clue c;"};
    private static final String[] SENTENCES = {"not (in c or sure b) and high > 6", "like x and not not (low<3 or in d)",
        "in c or in c or in c or in c or in c or in c or in c or in c or in c or in c or in c or in c or in c or in c or in c or in c or in c or in c or in c or in c",
        "((((((((in c))))))))", "not not not not not not not in c", "beats=3 or notes>1 and sure a"};
    private static final String[] BITS = {" ", "\n", ";", "x", "y", "a", "b", "c", "q", "tune", "clue", "person", "knows", "dare",
        "from", "name", "or", "and", "not", "in", "sure", "like", "high", "low", "beats", "notes", "0", "1", "9", "10",
        "24", "25", "100", "(", ")", "<", "=", ">", ".", "!", "abcdefgh", "tune q 1 1;", "tune q 1 1", "clue q x;", "person q;",
        " 1 1", "knows a x 1;", "dare a 1;", "from 1;", "a 1;", "and in c", "(", "not "};

    public static void main(String[] args) {
        Random random = new Random(11);
        for (int i = 0; i < 60000; i++) {
            String text = spoilt(STUDIOS[random.nextInt(STUDIOS.length)], random, 900);
            studio(text);
            text = spoilt(EVENINGS[random.nextInt(EVENINGS.length)], random, 400);
            evening(text);
            text = spoilt(SENTENCES[random.nextInt(SENTENCES.length)], random, 200);
            sentence(text);
        }
        Check.end();
    }

    /** A text with some bits put in, taken out, or blanks up to about the most bytes it may have. */
    static String spoilt(String whole, Random random, int most) {
        StringBuilder text = new StringBuilder(whole);
        for (int i = random.nextInt(5); i > 0; i--) {
            int at = random.nextInt(text.length() + 1);
            int end = Math.min(text.length(), at + random.nextInt(3));
            text.replace(at, random.nextInt(3) == 0 ? end : at, BITS[random.nextInt(BITS.length)]);
        }
        if (random.nextInt(5) == 0) {
            int at = random.nextInt(text.length() + 1);
            int room = Math.max(0, most - text.length() - 10 + random.nextInt(20));
            text.insert(at, " ".repeat(room));
        }
        return text.length() > 940 ? text.substring(0, 940) : text.toString();
    }

    private static void studio(String text) {
        NameNotes notes = new NameNotes();
        int got = Check.studio(notes, text);
        int kind = 0;
        int due;
        try {
            due = Reader.studio(text).lines;
        } catch (Reader.Fault e) {
            kind = e.kind;
            due = -1 - e.place;
        }
        Check.due("studio of '" + text + "'", got, due);
        Check.due("fault of '" + text + "'", notes.fault(), kind);
    }

    private static void evening(String text) {
        NameNotes notes = Check.told(STUDIO);
        int got = Check.evening(notes, text);
        int kind = 0;
        try {
            Reader.evening(text, Reader.studio(STUDIO));
            Check.due("evening '" + text + "' without a fault", got >= -1, true);
        } catch (Reader.Fault e) {
            kind = e.kind;
            Check.due("place in '" + text + "'", got, -2 - e.place);
        }
        Check.due("fault of '" + text + "'", notes.fault(), kind);
    }

    private static void sentence(String text) {
        NameNotes notes = Check.told(STUDIO);
        int got = Check.sentence(notes, text);
        int kind = 0;
        int due;
        try {
            due = Reader.sentence(text, Reader.studio(STUDIO)).ones();
        } catch (Reader.Fault e) {
            kind = e.kind;
            due = -1 - e.place;
        }
        Check.due("sentence '" + text + "'", got, due);
        Check.due("fault of '" + text + "'", notes.fault(), kind);
    }
}
