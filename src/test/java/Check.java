import java.util.NoSuchElementException;

/** What the tests share: texts that become feeds, answers that are compared, and how many were not due. */
final class Check {
    /** A call that may throw. */
    interface Call {
        long answer();
    }

    /** Stands for an answer that was a NoSuchElementException. */
    static final long NO_SUCH = Long.MIN_VALUE;

    private static int wrong = 0;

    private Check() {
    }

    static void due(String what, long got, long want) {
        if (got != want) {
            wrong++;
            System.out.println(what + " answered " + got + ", due is " + want);
        }
    }

    static void due(String what, boolean got, boolean want) {
        due(what, got ? 1 : 0, want ? 1 : 0);
    }

    static void due(String what, String got, String want) {
        if (!got.equals(want)) {
            wrong++;
            System.out.println(what + " answered " + got + ", due is " + want);
        }
    }

    static long tried(Call call) {
        try {
            return call.answer();
        } catch (NoSuchElementException e) {
            return NO_SUCH;
        }
    }

    static void throwsNoSuch(String what, Call call) {
        due(what, tried(call), NO_SUCH);
    }

    /** Feeds a text and cuts the tape behind it; the tape was empty. */
    static void feed(NameNotes notes, String text) {
        int start = notes.count(4);
        for (int i = 0; i < text.length(); i += 20) {
            notes.feed(four(text, i), four(text, i + 4), four(text, i + 8), four(text, i + 12), four(text, i + 16));
        }
        notes.end(start + text.length());
    }

    private static int four(String text, int start) {
        int sum = 0;
        for (int i = start; i < start + 4; i++) {
            sum = sum << 8 | (i < text.length() ? text.charAt(i) & 255 : 0);
        }
        return sum;
    }

    static int studio(NameNotes notes, String text) {
        feed(notes, text);
        return notes.studio();
    }

    static NameNotes told(String text) {
        NameNotes notes = new NameNotes();
        int lines = studio(notes, text);
        if (lines < 0) {
            wrong++;
            System.out.println("a test's studio has fault " + notes.fault() + " at " + (-1 - lines) + ": " + text);
        }
        return notes;
    }

    static int evening(NameNotes notes, String text) {
        feed(notes, text);
        return notes.evening();
    }

    static int sentence(NameNotes notes, String text) {
        feed(notes, text);
        return notes.sentence();
    }

    static String text(NameNotes notes) {
        StringBuilder text = new StringBuilder();
        for (int i = 0; notes.byteAt(i) != NameNotes.NONE; i++) {
            text.append((char) notes.byteAt(i));
        }
        return text.toString();
    }

    static void end() {
        System.out.println(wrong == 0 ? "all answers are as due" : wrong + " answers are not as due");
        if (wrong != 0) {
            System.exit(1);
        }
    }
}
