import java.util.NoSuchElementException;
import java.util.function.IntToLongFunction;

/** What the tests share: texts that become feeds, answers that are compared, and how many were not due. */
final class Check {
    /** A call that may throw. */
    interface Call {
        long answer();
    }

    /** Stands for an answer that was a NoSuchElementException. */
    static final long NO_SUCH = Long.MIN_VALUE;

    private static int wrong = 0;
    private static String heading = "";

    private Check() {
    }

    /** What is told once ahead of the wrong answers from now on. */
    static void heading(String words) {
        heading = words;
    }

    private static void wrong(String words) {
        wrong++;
        if (!heading.isEmpty()) {
            System.out.println("== " + heading);
            heading = "";
        }
        System.out.println(words);
    }

    static void due(String what, long got, long want) {
        if (got != want) {
            wrong(what + " answered " + got + ", due is " + want);
        }
    }

    static void due(String what, boolean got, boolean want) {
        due(what, got ? 1 : 0, want ? 1 : 0);
    }

    static void due(String what, String got, String want) {
        if (!got.equals(want)) {
            wrong(what + " answered " + got + ", due is " + want);
        }
    }

    static long tried(Call call) {
        try {
            return call.answer();
        } catch (NoSuchElementException e) {
            return NO_SUCH;
        }
    }

    static void throwsNoSuch(String what, Call call) {
        due(what, tried(call), NO_SUCH);
    }

    /** A fraction is told by 0 above, 1 below, and nothing else. */
    static void fraction(String what, long above, long below, IntToLongFunction told) {
        due(what + " above", tried(() -> told.applyAsLong(0)), above);
        due(what + " below", tried(() -> told.applyAsLong(1)), below);
    }

    static void noFraction(String what, IntToLongFunction told) {
        throwsNoSuch(what + " above", () -> told.applyAsLong(0));
        throwsNoSuch(what + " below", () -> told.applyAsLong(1));
    }

    /** Numbers that no one of so many has. */
    static int[] outside(int count) {
        return new int[] {-1, count, count + 1, Integer.MAX_VALUE, Integer.MIN_VALUE};
    }

    /** The same where NONE stands for all. */
    static int[] outsideAll(int count) {
        return new int[] {-2, count, count + 1, Integer.MAX_VALUE, Integer.MIN_VALUE};
    }

    /** Feeds a text and cuts the tape behind it; the tape was empty. */
    static void feed(NameNotes notes, String text) {
        int start = notes.count(4);
        for (int i = 0; i < text.length(); i += 20) {
            notes.feed(four(text, i), four(text, i + 4), four(text, i + 8), four(text, i + 12), four(text, i + 16));
        }
        notes.end(start + text.length());
    }

    private static int four(String text, int start) {
        int sum = 0;
        for (int i = start; i < start + 4; i++) {
            sum = sum << 8 | (i < text.length() ? text.charAt(i) & 255 : 0);
        }
        return sum;
    }

    static int studio(NameNotes notes, String text) {
        feed(notes, text);
        return notes.studio();
    }

    static NameNotes told(String text) {
        NameNotes notes = new NameNotes();
        int lines = studio(notes, text);
        if (lines < 0) {
            wrong("a test's studio has fault " + notes.fault() + " at " + (-1 - lines) + ": " + text);
        }
        return notes;
    }

    static void fine(String text, int lines) {
        NameNotes notes = new NameNotes();
        due("studio of '" + text + "'", studio(notes, text), lines);
        due("fault of '" + text + "'", notes.fault(), 0);
    }

    static void faulty(String text, int kind, int place) {
        NameNotes notes = new NameNotes();
        due("studio of '" + text + "'", studio(notes, text), -1 - place);
        due("fault of '" + text + "'", notes.fault(), kind);
    }

    static int evening(NameNotes notes, String text) {
        feed(notes, text);
        return notes.evening();
    }

    static int sentence(NameNotes notes, String text) {
        feed(notes, text);
        return notes.sentence();
    }

    static String text(NameNotes notes) {
        StringBuilder text = new StringBuilder();
        for (int i = 0; notes.byteAt(i) != NameNotes.NONE; i++) {
            text.append((char) notes.byteAt(i));
        }
        return text.toString();
    }

    static void end() {
        System.out.println(wrong == 0 ? "all answers are as due" : wrong + " answers are not as due");
        if (wrong != 0) {
            System.exit(1);
        }
    }
}
