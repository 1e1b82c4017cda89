/** Promises 4 to 11: a studio read from the tape, its faults, and what it tells. */
public final class StudioTest {
    private static final String SMALL = "tune x 5 2 7 1 9 1;tune y 24 9;clue c y x;clue d y;person a;person b;"
            + "knows a x 9;knows b y 0;dare b 0;from 4;";

    public static void main(String[] args) {
        answers();
        blanks();
        lastStudioStays();
        faultsOfTokens();
        faultsOfNumbers();
        faultsOfNames();
        faultsOfCounts();
        faultsByLength();
        Check.end();
    }

    private static void answers() {
        NameNotes notes = new NameNotes();
        Check.due("studio", Check.studio(notes, SMALL), 10);
        Check.due("fault", notes.fault(), 0);
        Check.due("tunes", notes.count(0), 2);
        Check.due("clues", notes.count(1), 2);
        Check.due("persons", notes.count(2), 2);
        Check.due("from", notes.count(3), 4);
        Check.due("tape", notes.count(4), 0);
        Check.due("pitch", notes.note(0, 1, 0), 7);
        Check.due("length", notes.note(1, 0, 1), 9);
        Check.due("note(0, 3, 0)", notes.note(0, 3, 0), -1);
        Check.due("note(0, -1, 0)", notes.note(0, -1, 0), -1);
        Check.due("note(2, 0, 0)", notes.note(2, 0, 0), -1);
        Check.due("note(-1, 0, 0)", notes.note(-1, 0, 0), -1);
        Check.due("note(0, 0, 2)", notes.note(0, 0, 2), -1);
        Check.due("notes", notes.tune(0, 0), 3);
        Check.due("greatest", notes.tune(0, 1), 9);
        Check.due("least", notes.tune(0, 2), 5);
        Check.due("lengths", notes.tune(0, 3), 4);
        Check.due("tune(0, 4)", notes.tune(0, 4), -1);
        Check.due("tune(0, -1)", notes.tune(0, -1), -1);
        Check.due("tune(2, 0)", notes.tune(2, 0), -1);
        Check.due("when(0, 0)", notes.when(0, 0), 0);
        Check.due("when(0, 2)", notes.when(0, 2), 3);
        Check.due("when(0, 3)", notes.when(0, 3), -1);
        Check.due("when(-1, 0)", notes.when(-1, 0), -1);
        Check.due("clue(0)", notes.clue(0), 3);
        Check.due("clue(1)", notes.clue(1), 2);
        Check.due("clue(2)", notes.clue(2), -1);
        Check.due("clue(-1)", notes.clue(-1), -1);
        Check.due("knows(0, 0)", notes.knows(0, 0), 9);
        Check.due("knows(0, 1)", notes.knows(0, 1), 0);
        Check.due("knows(2, 0)", notes.knows(2, 0), -1);
        Check.due("knows(0, 2)", notes.knows(0, 2), -1);
        Check.due("dare(0)", notes.dare(0), 5);
        Check.due("dare(1)", notes.dare(1), 0);
        Check.due("dare(2)", notes.dare(2), -1);
        Check.due("dare(-1)", notes.dare(-1), -1);
    }

    private static void blanks() {
        NameNotes notes = new NameNotes();
        Check.due("blanks", Check.studio(notes, "\n tune  x\n05 2 \n; person\na;\n"), 2);
        Check.due("a number with a nought ahead", notes.note(0, 0, 0), 5);
        Check.due("a tab is no blank", Check.studio(notes, "tune\tx 5 2;"), -1 - 4);
        Check.due("a return is no blank", Check.studio(notes, "tune\rx 5 2;"), -1 - 4);
        Check.due("no blanks where none must be", Check.studio(notes, "tune x 5 2;person a;"), 2);
        Check.due("blanks alone", Check.studio(notes, " \n "), 0);
    }

    private static void lastStudioStays() {
        NameNotes notes = Check.told(SMALL);
        notes.teach(0, 1, 3);
        Check.due("a fault", Check.studio(notes, "tune"), -5);
        Check.due("fault", notes.fault(), 1);
        Check.due("the tape is empty", notes.count(4), 0);
        Check.due("the studio stays", notes.count(0), 2);
        Check.due("what is known stays", notes.knows(0, 1), 3);
        Check.due("what may be undone stays", notes.undo(), 0);
        Check.due("an empty studio", Check.studio(notes, ""), 0);
        Check.due("fault is gone", notes.fault(), 0);
        Check.due("no tunes", notes.count(0), 0);
        Check.due("from is 9 again", notes.count(3), 9);
        Check.studio(notes, SMALL);
        Check.due("knows without", notes.knows(0, 1), 0);
        Check.due("dare without", notes.dare(0), 5);
    }

    private static void faultsOfTokens() {
        Check.faulty("tune x 5 2", 1, 10);
        Check.faulty("tune x 5 2 ", 1, 11);
        Check.faulty("tune x 5;", 1, 8);
        Check.faulty("tune x;", 1, 6);
        Check.faulty("tune x 5 2 7;", 1, 12);
        Check.faulty("tune 5 2;", 1, 5);
        Check.faulty("tune tune 5 2;", 1, 5);
        Check.faulty("tune beats 5 2;", 1, 5);
        Check.faulty("tune name 5 2;", 1, 5);
        Check.faulty("tune abcdefgh 5 2;", 1, 5);
        Check.faulty("tune ab1 5 2;", 1, 5);
        Check.faulty("tune x 5a 2;", 1, 7);
        Check.faulty("tune x 100 2;", 1, 7);
        Check.faulty("tune X 5 2;", 1, 5);
        Check.faulty("tune x 5 2;;", 1, 11);
        Check.faulty("tune x 5 2 .", 1, 11);
        Check.faulty("tune x 5 2(", 1, 10);
        Check.faulty("tune x 5 2;" + (char) 244, 1, 11);
        Check.faulty("name x;", 1, 0);
        Check.faulty("x;", 1, 0);
        Check.faulty("tune x 5 2;clue c;", 1, 17);
        Check.faulty("tune x 5 2;clue c x 3;", 1, 20);
        Check.faulty("tune x 5 2;clue c tune;", 1, 18);
        Check.faulty("person a b;", 1, 9);
        Check.faulty("person a;dare a;", 1, 15);
        Check.faulty("from;", 1, 4);
        Check.faulty("from x;", 1, 5);
        Check.faulty("person a;dare a 3 4;", 1, 18);
        Check.due("seven letters", Check.studio(new NameNotes(), "person abcdefg;person tunes;"), 2);
    }

    private static void faultsOfNumbers() {
        Check.faulty("tune x 25 2;", 2, 7);
        Check.faulty("tune x 24 0;", 2, 10);
        Check.faulty("tune x 24 10;", 2, 10);
        Check.faulty("from 0;", 2, 5);
        Check.faulty("from 10;", 2, 5);
        Check.faulty("tune x 0 1;person a;knows a x 10;", 2, 30);
        Check.faulty("person a;dare a 10;", 2, 16);
    }

    private static void faultsOfNames() {
        Check.faulty("tune x 1 1;tune x 1 1;", 3, 16);
        Check.faulty("tune x 1 1;person x;", 3, 18);
        Check.faulty("tune x 1 1;clue x x;", 3, 16);
        Check.faulty("person x;tune x 1 1;", 3, 14);
        Check.faulty("clue c x;tune x 1 1;", 3, 7);
        Check.faulty("tune x 1 1;clue c x x;", 3, 20);
        Check.faulty("tune x 1 1;clue c c;", 3, 18);
        Check.faulty("tune x 1 1;person a;knows x x 1;", 3, 26);
        Check.faulty("tune x 1 1;person a;knows a a 1;", 3, 28);
        Check.faulty("tune x 1 1;person a;knows a x 0;knows a x 0;", 3, 38);
        Check.faulty("tune x 1 1;person a;knows a x 0;knows a x 10;", 3, 38);
        Check.faulty("tune x 1 1;person a;knows a x 0;knows a y 0;", 3, 40);
        Check.faulty("person a;dare b 5;", 3, 14);
        Check.faulty("person a;dare a 5;dare a 5;", 3, 23);
        Check.faulty("from 9;from 9;", 3, 7);
    }

    private static void faultsOfCounts() {
        StringBuilder text = new StringBuilder();
        for (int x = 0; x < 9; x++) {
            text.append("tune ").append(Slow.tuneName(x)).append(" 1 1;");
        }
        Check.due("nine tunes", Check.studio(new NameNotes(), text.toString()), 9);
        Check.faulty(text + "tune", 4, text.length());
        Check.faulty(text + "clue c ta tb tc td te tf tg th ti ta;", 3, text.length() + 34);
        String nine = "tune x 1 1 1 1 1 1 1 1 1 1 1 1 1 1 1 1 1 1";
        Check.due("nine notes", Check.studio(new NameNotes(), nine + ";"), 1);
        Check.faulty(nine + " 24 0;", 4, nine.length() + 1);
        Check.faulty(nine + " 25 1;", 2, nine.length() + 1);
        Check.faulty(nine + " x;", 1, nine.length() + 1);
        String clues = "tune x 1 1;clue a x;clue b x;clue c x;clue d x;clue e x;clue f x;";
        Check.due("six clues", Check.studio(new NameNotes(), clues), 7);
        Check.faulty(clues + " clue g x;", 4, clues.length() + 1);
        String persons = "person a;person b;person c;person d;person e;";
        Check.due("five persons", Check.studio(new NameNotes(), persons), 5);
        Check.faulty(persons + "person a;", 4, persons.length());
    }

    private static void faultsByLength() {
        String line = "person a;";
        String blanks = " ".repeat(900 - line.length());
        Check.due("900 bytes", Check.studio(new NameNotes(), line + blanks), 1);
        Check.faulty(line + blanks + " ", 1, 900);
        Check.faulty(line + blanks + "x", 1, 900);
        String nearly = " ".repeat(898 - line.length());
        Check.faulty(line + nearly + "dare a 5;", 1, 900);
        Check.faulty(line + nearly + "none", 1, 898);
        Check.faulty(line + " ".repeat(893 - line.length()) + "person a;", 1, 900);
        Check.faulty(line + " ".repeat(892 - line.length()) + "person a;", 3, 899);
        Check.faulty(line + " ".repeat(892 - line.length()) + "person bcd;", 1, 900);
    }
}
