/** Promises 47 to 49: an evening judged line by line. */
public final class EveningTest {
    private static final String STUDIO = "tune x 5 2;tune y 5 2;clue c x;clue d x y;person a;person b;person e;"
            + "knows a x 3;knows b x 9;knows b y 9;from 6;";

    public static void main(String[] args) {
        judged();
        faults();
        staysBehindFaults();
        tells();
        Check.end();
    }

    private static NameNotes heard(String text, int line, int... state) {
        NameNotes notes = Check.told(STUDIO);
        Check.due("evening '" + text + "'", Check.evening(notes, text), line);
        Check.due("fault of '" + text + "'", notes.fault(), 0);
        Check.due("tape behind it", notes.count(4), 0);
        for (int what = 0; what < 5; what++) {
            Check.due("heard(" + what + ") of '" + text + "'", notes.heard(what), state[what]);
        }
        Check.due("heard(5)", notes.heard(5), -1);
        Check.due("heard(-1)", notes.heard(-1), -1);
        return notes;
    }

    private static void judged() {
        heard("clue c;", -1, 0, 0, -1, -1, -1);
        heard("clue c;a 6;", -1, 0, 6, 0, -1, -1);
        heard("clue c;b 6;a 5;", -1, 0, 5, 0, -1, 1);
        heard("clue c;b 6;a 5;b 1;a name;", -1, 0, 1, 1, 0, -1);
        heard("clue c;a 7;", 1, 3, 0, -1, -1, -1);
        heard("clue c;a name;", 1, 4, 0, -1, -1, -1);
        heard("clue c;a 6;a 5;", 2, 2, 6, 0, -1, -1);
        heard("clue c;a 6;a name;", 2, 2, 6, 0, -1, -1);
        heard("clue c;a 6;b 5;e 4;", 3, 2, 5, 1, -1, 0);
        heard("clue c;a 6;b 5;b name;", 3, 2, 5, 1, -1, 0);
        heard("clue c;a 6;b 6;", 2, 3, 6, 0, -1, -1);
        heard("clue c;a 6;b 9;", 2, 3, 6, 0, -1, -1);
        heard("clue c;a 1;b 1;", 2, 3, 1, 0, -1, -1);
        heard("clue c;a 6;b 5;b 9;", 3, 2, 5, 1, -1, 0);
        heard("clue c;a 6;b name;a 5;", 3, 1, 6, 0, 1, -1);
        heard("clue c;a 6;b name;b name;e 9;", 3, 1, 6, 0, 1, -1);
        heard(" clue\nd ; e 3 ; a name ; ", -1, 0, 3, 2, 0, -1);
    }

    private static void faulty(String text, int kind, int place) {
        NameNotes notes = Check.told(STUDIO);
        Check.due("evening '" + text + "'", Check.evening(notes, text), -2 - place);
        Check.due("fault of '" + text + "'", notes.fault(), kind);
        Check.due("tape behind it", notes.count(4), 0);
        Check.due("heard behind it", notes.heard(1), -1);
    }

    private static void faults() {
        faulty("", 1, 0);
        faulty("a 4;", 1, 0);
        faulty("clue;", 1, 4);
        faulty("clue c", 1, 6);
        faulty("clue c d;", 1, 7);
        faulty("clue name;", 1, 5);
        faulty("clue x;", 3, 5);
        faulty("clue q;", 3, 5);
        faulty("clue c;;", 1, 7);
        faulty("clue c;a;", 1, 8);
        faulty("clue c;a 4", 1, 10);
        faulty("clue c;a 4 b 3;", 1, 11);
        faulty("clue c;a x;", 1, 9);
        faulty("clue c;a tune;", 1, 9);
        faulty("clue c;a 123;", 1, 9);
        faulty("clue c;name;", 1, 7);
        faulty("clue c;clue d;", 1, 7);
        faulty("clue c;a 0;", 2, 9);
        faulty("clue c;a 10;", 2, 9);
        faulty("clue c;x 4;", 3, 7);
        faulty("clue c;q 4;", 3, 7);
        faulty("clue c;a 9;a 9;q", 3, 15);
        String line = "clue c;";
        Check.due("400 bytes", Check.evening(Check.told(STUDIO), line + " ".repeat(393)), -1);
        faulty(line + " ".repeat(394), 1, 400);
        faulty(line + " ".repeat(392) + "a", 1, 400);
        faulty(line + " ".repeat(392) + "a 4;", 1, 400);
        faulty(line + " ".repeat(392) + "qq;", 3, 399);
        StringBuilder many = new StringBuilder(line);
        for (int i = 0; i < 98; i++) {
            many.append("a 6;");
        }
        Check.due("as many lines as there may be", Check.evening(Check.told(STUDIO), many.toString()), 2);
        faulty(new NameNotes(), line, 3, 5);
    }

    private static void faulty(NameNotes notes, String text, int kind, int place) {
        Check.due("evening '" + text + "'", Check.evening(notes, text), -2 - place);
        Check.due("fault of '" + text + "'", notes.fault(), kind);
    }

    private static void staysBehindFaults() {
        NameNotes notes = Check.told(STUDIO);
        Check.evening(notes, "clue c;a 6;b name;");
        faulty(notes, "clue d;b 4;a", 1, 12);
        Check.due("the latest without a fault", notes.heard(1), 6);
        Ratio.of(1, 3).due("told stays", notes.told(0), notes.told(1));
        Check.evening(notes, "clue c;b 6;");
        Check.due("no fault now", notes.fault(), 0);
    }

    private static void tells() {
        NameNotes notes = Check.told(STUDIO);
        Check.throwsNoSuch("told ahead of any", () -> notes.told(0));
        Check.evening(notes, "clue c;b 6;a 5;b name;");
        Ratio.of(1, 3).due("told", notes.told(0), notes.told(1));
        Check.throwsNoSuch("told(2)", () -> notes.told(2));
        Check.throwsNoSuch("told(-1)", () -> notes.told(-1));
        notes.teach(0, 0, 6);
        Ratio.of(2, 3).due("told by what is known now", notes.told(0), notes.told(1));
        Check.evening(notes, "clue d;b 6;a name;");
        Ratio.of(1, 2).due("told", notes.told(0), notes.told(1));
        Check.evening(notes, "clue d;b 6;a name;b 5;");
        Check.throwsNoSuch("it was wrong", () -> notes.told(0));
        Check.evening(notes, "clue d;b 6;a 5;");
        Check.throwsNoSuch("it is not over", () -> notes.told(0));
        Check.evening(notes, "clue d;b 6;a name;");
        notes.image(0);
        Check.studio(notes, STUDIO);
        Check.throwsNoSuch("another studio", () -> notes.told(0));
        Check.due("heard stays", notes.heard(1), 6);
        notes.restore(0);
        Ratio.of(1, 2).due("told, the studio being back", notes.told(0), notes.told(1));
        Check.studio(notes, "tune");
        Ratio.of(1, 2).due("told behind a studio with a fault", notes.told(0), notes.told(1));
    }
}
