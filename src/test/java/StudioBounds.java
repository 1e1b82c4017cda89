/** Promises 1 to 14: the tape, the studio, and which tunes begin alike. */
final class StudioBounds {
    private static final String SMALL = TestStudios.SMALL;
    private static final String FULL = TestStudios.FULL;

    private StudioBounds() {
    }

    static void run() {
        newObject();
        feeds();
        ends();
        studios();
        faults();
        notes();
        tunes();
        persons();
        begins();
        parts();
        enough();
    }

    private static void newObject() {
        Bound.promise(1, "An empty STUDIO; an empty tape.", () -> {
            NameNotes notes = new NameNotes();
            Check.due("tunes", notes.count(0), 0);
            Check.due("clues", notes.count(1), 0);
            Check.due("persons", notes.count(2), 0);
            Check.due("from", notes.count(3), 9);
            Check.due("bytes", notes.count(4), 0);
            Check.due("end(0)", notes.end(0), true);
            Check.due("end(1)", notes.end(1), false);
            Check.due("note", notes.note(0, 0, 0), -1);
            Check.due("clue", notes.clue(0), -1);
            Check.due("dare", notes.dare(0), -1);
            Check.due("parts of no tunes", notes.parts(1, 0, -1), 0);
            Check.due("evening of an empty tape", notes.evening(), -2);
            Check.due("sentence of an empty tape", notes.sentence(), -1);
            Check.due("studio of an empty tape", notes.studio(), 0);
        });
        Bound.holds("What it is", "An object is used for at most 512 calls after it has been made;", () -> {
            NameNotes notes = new NameNotes();
            for (int i = 1; i < 512; i += 3) {
                Check.due("call " + i, notes.feed(i, i, i, i, i), 20);
                Check.due("call " + (i + 1), notes.end(0), true);
                Check.due("call " + (i + 2), notes.studio(), 0);
            }
        });
    }

    private static void feeds() {
        Bound.promise(2, "Twenty bytes come behind the tape, of each number the highest first: how many it has;", () -> {
            for (int place = 0; place < 20; place++) {
                for (int b : new int[] {0, 1, 127, 128, 255}) {
                    int[] numbers = {0x20202020, 0x20202020, 0x20202020, 0x20202020, 0x20202020};
                    int shift = 24 - place % 4 * 8;
                    numbers[place / 4] = numbers[place / 4] & ~(255 << shift) | b << shift;
                    NameNotes notes = new NameNotes();
                    Check.due("feed", notes.feed(numbers[0], numbers[1], numbers[2], numbers[3], numbers[4]), 20);
                    Check.due("byte " + b + " at " + place, notes.studio(), -1 - place);
                    Check.due("its fault", notes.fault(), 1);
                }
            }
            NameNotes notes = new NameNotes();
            Check.due("feed", notes.feed(0x70657273, 0x6f6e2061, 0x3b202020, 0, 0), 20);
            notes.end(9);
            Check.due("feed behind it", notes.feed(0x70657273, 0x6f6e2062, 0x3b202020, 0x20202020, 0x20202020), 29);
            Check.due("studio of both", notes.studio(), 2);
            Check.due("feed on an empty tape again", notes.feed(-1, -1, -1, -1, -1), 20);
        });
        Bound.promise(2, "NONE, and none come, if it would have more than 940.", () -> {
            NameNotes notes = new NameNotes();
            for (int i = 1; i <= 47; i++) {
                Check.due("feed", notes.feed(0, 0, 0, 0, 0), 20 * i);
            }
            Check.due("feed on a full tape", notes.feed(0, 0, 0, 0, 0), -1);
            Check.due("bytes", notes.count(4), 940);
            for (int size = 939; size > 920; size--) {
                notes.end(size);
                Check.due("feed on " + size, notes.feed(0, 0, 0, 0, 0), -1);
                Check.due("bytes", notes.count(4), size);
            }
            notes.end(920);
            Check.due("feed on 920", notes.feed(0, 0, 0, 0, 0), 940);
            Check.due("feed on 940", notes.feed(0, 0, 0, 0, 0), -1);
        });
    }

    private static void ends() {
        Bound.promise(3, "The tape has its first n bytes alone: true;", () -> {
            NameNotes notes = new NameNotes();
            Check.feed(notes, "person a;person bcd;");
            Check.due("all of it", notes.end(20), true);
            Check.due("bytes", notes.count(4), 20);
            Check.due("its first 9", notes.end(9), true);
            Check.due("bytes", notes.count(4), 9);
            Check.due("its first lines", notes.studio(), 1);
            Check.due("none of none", notes.end(0), true);
            Check.feed(notes, "person a;");
            Check.due("none", notes.end(0), true);
            Check.due("bytes", notes.count(4), 0);
            Check.due("no lines", notes.studio(), 0);
        });
        Bound.promise(3, "false, if it has not so many, or n is below 0.", () -> {
            NameNotes notes = new NameNotes();
            Check.due("one of none", notes.end(1), false);
            Check.feed(notes, "person a;");
            for (int n : new int[] {10, 20, 940, Integer.MAX_VALUE, -1, Integer.MIN_VALUE}) {
                Check.due("end(" + n + ")", notes.end(n), false);
                Check.due("bytes", notes.count(4), 9);
            }
            Check.due("all that there was", notes.studio(), 1);
        });
    }

    private static void studios() {
        Bound.promise(4, "The tape (empty then, with a FAULT, too, here and below) is the STUDIO now: how many LINES;", () -> {
            NameNotes notes = new NameNotes();
            Check.due("no lines", notes.studio(), 0);
            Check.due("twelve lines", Check.studio(notes, SMALL), 12);
            Check.due("bytes", notes.count(4), 0);
            Check.due("tunes", notes.count(0), 3);
            Check.due("one line", Check.studio(notes, "person a;"), 1);
            Check.due("tunes", notes.count(0), 0);
            Check.due("no lines", notes.studio(), 0);
            Check.due("persons", notes.count(2), 0);
            Check.due("a fault", Check.studio(notes, "!  "), -1);
            Check.due("bytes", notes.count(4), 0);
            Check.due("too many", Check.studio(notes, " ".repeat(940)), -901);
            Check.due("bytes", notes.count(4), 0);
            Check.due("evening with a fault", Check.evening(notes, "clue c;"), -7);
            Check.due("bytes", notes.count(4), 0);
            Check.due("sentence with a fault", Check.sentence(notes, "in c"), -4);
            Check.due("bytes", notes.count(4), 0);
            Check.studio(notes, SMALL);
            Check.due("evening", Check.evening(notes, "clue c;"), -1);
            Check.due("bytes", notes.count(4), 0);
            Check.due("sentence", Check.sentence(notes, "in c"), 1);
            Check.due("bytes", notes.count(4), 0);
        });
        Bound.promise(4, "-1 less the place of a FAULT: it stays.", () -> {
            NameNotes notes = Check.told(SMALL);
            notes.teach(0, 2, 4);
            Check.sentence(notes, "in c");
            Check.due("a fault at 0", Check.studio(notes, "x"), -1);
            Check.due("a fault behind a whole line", Check.studio(notes, "tune q 1 1;from 0;"), -17);
            Check.due("a fault at the end", Check.studio(notes, "tune q 1 1;clue g q;person h;dare h 0;from 1"), -45);
            Check.due("tunes", notes.count(0), 3);
            Check.due("clues", notes.count(1), 2);
            Check.due("persons", notes.count(2), 2);
            Check.due("from", notes.count(3), 4);
            Check.due("a note", notes.note(0, 0, 0), 5);
            Check.due("a clue", notes.clue(0), 3);
            Check.due("what is known", notes.knows(0, 2), 4);
            Check.due("dare", notes.dare(1), 2);
            Check.due("alike", notes.alike(0, 1, 0), 2);
            Check.due("sentence", notes.said(-1), 2);
            Check.due("a name", Check.evening(notes, "clue d;b 1;"), -1);
            Check.due("undo", notes.undo(), 0);
        });
    }

    private static void faults() {
        Bound.promise(5, "The kind of the FAULT of the latest studio(), evening() or sentence();", () -> {
            NameNotes notes = Check.told(SMALL);
            Check.studio(notes, "from 0;");
            Check.due("of a studio", notes.fault(), 2);
            Check.evening(notes, "clue q;");
            Check.due("of an evening", notes.fault(), 3);
            Check.sentence(notes, "not ".repeat(9));
            Check.due("of a sentence", notes.fault(), 4);
            Check.evening(notes, "!");
            Check.due("of an evening", notes.fault(), 1);
            notes.teach(0, 0, 1);
            notes.write(0);
            notes.image(0);
            notes.restore(0);
            Check.feed(notes, "person");
            Check.due("other calls leave it", notes.fault(), 1);
        });
        Bound.promise(5, "0 without one and ahead of any.", () -> {
            NameNotes notes = new NameNotes();
            Check.due("ahead of any", notes.fault(), 0);
            Check.studio(notes, "!");
            Check.studio(notes, SMALL);
            Check.due("behind a studio", notes.fault(), 0);
            Check.studio(notes, "!");
            Check.evening(notes, "clue c;a name;");
            Check.due("behind an evening, WRONG as it is", notes.fault(), 0);
            Check.studio(notes, "!");
            Check.sentence(notes, "in c");
            Check.due("behind a sentence", notes.fault(), 0);
        });
    }

    private static void notes() {
        Bound.promise(6, "Note i of TUNE x: 0 PITCH, 1 LENGTH.", () -> {
            NameNotes notes = Check.told("tune x 0 1 24 9 7 3 1 1 2 2 3 3 4 4 5 5 6 6;tune y 24 9;");
            Check.due("the first pitch", notes.note(0, 0, 0), 0);
            Check.due("the first length", notes.note(0, 0, 1), 1);
            Check.due("pitch", notes.note(0, 1, 0), 24);
            Check.due("length", notes.note(0, 1, 1), 9);
            Check.due("the ninth pitch", notes.note(0, 8, 0), 6);
            Check.due("the ninth length", notes.note(0, 8, 1), 6);
            Check.due("of the second tune", notes.note(1, 0, 0), 24);
            Check.due("of the ninth tune", Check.told(FULL).note(8, 8, 1), 2);
        });
        Bound.promise(6, "NONE: no such ones.", () -> {
            NameNotes notes = Check.told(SMALL);
            NameNotes full = Check.told(FULL);
            for (int wrong : Check.outside(9)) {
                Check.due("of tune " + wrong, notes.note(wrong, 0, 0), -1);
                Check.due("of tune " + wrong, full.note(wrong, 0, 0), -1);
                Check.due("note " + wrong, full.note(8, wrong, 0), -1);
            }
            Check.due("of the third tune of two notes", notes.note(2, 2, 0), -1);
            Check.due("of a fourth tune", notes.note(3, 0, 0), -1);
            for (int wrong : Check.outside(2)) {
                Check.due("what " + wrong, notes.note(0, 0, wrong), -1);
            }
            Check.due("of a new object", new NameNotes().note(0, 0, 0), -1);
        });
    }

    private static void tunes() {
        Bound.promise(7, "Of TUNE x: 0 notes, 1 the greatest PITCH, 2 the least, 3 all LENGTHS.", () -> {
            NameNotes notes = Check.told("tune x 5 2;tune y 7 9 24 9 0 9 1 9 1 9 1 9 1 9 1 9 1 9;tune z 24 1;tune u 0 1 0 1;");
            int[][] due = {{1, 5, 5, 2}, {9, 24, 0, 81}, {1, 24, 24, 1}, {2, 0, 0, 2}};
            for (int x = 0; x < 4; x++) {
                for (int what = 0; what < 4; what++) {
                    Check.due("tune(" + x + ", " + what + ")", notes.tune(x, what), due[x][what]);
                }
            }
            Check.due("the ninth", Check.told(FULL).tune(8, 3), 18);
        });
        Bound.promise(7, "NONE: no such ones.", () -> {
            for (int wrong : Check.outside(9)) {
                Check.due("tune " + wrong, Check.told(FULL).tune(wrong, 0), -1);
            }
            for (int wrong : Check.outside(4)) {
                Check.due("what " + wrong, Check.told(FULL).tune(0, wrong), -1);
            }
            Check.due("a fourth tune", Check.told(SMALL).tune(3, 0), -1);
            Check.due("a tune that was in the last studio", lessThanFull().tune(1, 0), -1);
        });
        Bound.promise(8, "How much there is of TUNE x ahead of note i: LENGTHS together;", () -> {
            NameNotes notes = Check.told("tune x 7 9 24 8 0 7 1 6 1 5 1 4 1 3 1 2 1 1;");
            int[] due = {0, 9, 17, 24, 30, 35, 39, 42, 44};
            for (int i = 0; i < 9; i++) {
                Check.due("when(0, " + i + ")", notes.when(0, i), due[i]);
            }
        });
        Bound.promise(8, "NONE: no such ones.", () -> {
            NameNotes full = Check.told(FULL);
            for (int wrong : Check.outside(9)) {
                Check.due("tune " + wrong, full.when(wrong, 0), -1);
                Check.due("note " + wrong, full.when(8, wrong), -1);
            }
            Check.due("behind its only note", full.when(0, 1), -1);
            Check.due("its only note", full.when(0, 0), 0);
        });
        Bound.promise(9, "TUNES that CLUE c leaves, as bits; NONE: no such one.", () -> {
            NameNotes full = Check.told(FULL);
            int[] due = {511, 1, 256, 257, 384, 15};
            for (int c = 0; c < 6; c++) {
                Check.due("clue " + c, full.clue(c), due[c]);
            }
            for (int wrong : Check.outside(6)) {
                Check.due("clue " + wrong, full.clue(wrong), -1);
            }
            Check.due("a third clue", Check.told(SMALL).clue(2), -1);
            Check.due("a clue that was in the last studio", lessThanFull().clue(0), -1);
        });
    }

    /** A studio of one tune and one person, told behind the fullest one. */
    private static NameNotes lessThanFull() {
        NameNotes notes = Check.told(FULL);
        Check.studio(notes, "tune x 5 2;person a;");
        return notes;
    }

    private static void persons() {
        Bound.promise(10, "By how many of 9 PERSON p knows TUNE x; NONE: no such ones.", () -> {
            NameNotes full = Check.told(FULL);
            int[] due = {9, 0, 5, 0, 0};
            for (int p = 0; p < 5; p++) {
                for (int x = 0; x < 9; x++) {
                    Check.due("knows(" + p + ", " + x + ")", full.knows(p, x), p == 4 && x == 8 ? 9 : due[p]);
                }
            }
            for (int wrong : Check.outside(5)) {
                Check.due("person " + wrong, full.knows(wrong, 0), -1);
            }
            for (int wrong : Check.outside(9)) {
                Check.due("tune " + wrong, full.knows(0, wrong), -1);
            }
            Check.due("a fourth tune", Check.told(SMALL).knows(0, 3), -1);
            Check.due("a third person", Check.told(SMALL).knows(2, 0), -1);
            Check.due("a new studio", lessThanFull().knows(0, 0), 0);
            Check.due("a person that was in the last studio", lessThanFull().knows(1, 0), -1);
        });
        Bound.promise(11, "'dare' of PERSON p; NONE: no such one.", () -> {
            NameNotes full = Check.told(FULL);
            for (int p = 0; p < 5; p++) {
                Check.due("dare of " + p, full.dare(p), p == 4 ? 9 : 5);
            }
            for (int wrong : Check.outside(5)) {
                Check.due("person " + wrong, full.dare(wrong), -1);
            }
            Check.due("a third person", Check.told(SMALL).dare(2), -1);
            Check.due("a new studio", lessThanFull().dare(0), 5);
        });
    }

    private static void begins() {
        Bound.promise(12, "TUNES that CLUE c leaves (NONE: all) and that are LIKE TUNE x by n (1 to 9) notes (how 0 to 3), as bits"
                + " (x, too, if it is left);", () -> {
            NameNotes full = Check.told(FULL);
            for (int how = 0; how < 4; how++) {
                for (int n = 1; n <= 9; n++) {
                    for (int x = 0; x < 9; x++) {
                        int all = x + 1 < n ? 1 << x : 511 & -(1 << n - 1);
                        Check.due("of all", full.begins(x, n, how, -1), all);
                        Check.due("of the first clue", full.begins(x, n, how, 0), all);
                        Check.due("of the last clue", full.begins(x, n, how, 5), all & 15);
                        Check.due("of one tune", full.begins(x, n, how, 2), all & 256);
                    }
                }
            }
        });
        Bound.promise(12, "NONE: no such ones.", () -> {
            NameNotes full = Check.told(FULL);
            for (int wrong : Check.outside(9)) {
                Check.due("tune " + wrong, full.begins(wrong, 1, 0, -1), -1);
            }
            for (int wrong : Check.outside(10)) {
                Check.due("notes " + wrong, full.begins(0, wrong, 0, -1), -1);
            }
            Check.due("by no notes", full.begins(0, 0, 0, -1), -1);
            for (int wrong : Check.outside(4)) {
                Check.due("how " + wrong, full.begins(0, 1, wrong, -1), -1);
            }
            for (int wrong : Check.outsideAll(6)) {
                Check.due("clue " + wrong, full.begins(0, 1, 0, wrong), -1);
            }
            Check.due("a fourth tune", Check.told(SMALL).begins(3, 1, 0, -1), -1);
            Check.due("a third clue", Check.told(SMALL).begins(0, 1, 0, 2), -1);
        });
    }

    private static void parts() {
        Bound.promise(13, "How many beginnings of n notes, unlike one another, there are among TUNES that CLUE c leaves"
                + " (NONE: all);", () -> {
            NameNotes full = Check.told(FULL);
            for (int n = 1; n <= 9; n++) {
                for (int how = 0; how < 4; how++) {
                    Check.due("of all", full.parts(n, how, -1), n);
                    Check.due("of the first clue", full.parts(n, how, 0), n);
                    Check.due("of one tune", full.parts(n, how, 1), 1);
                    Check.due("of the first and the last one", full.parts(n, how, 3), n == 1 ? 1 : 2);
                    Check.due("of the two last ones", full.parts(n, how, 4), n == 9 ? 2 : 1);
                    Check.due("of the four first ones", full.parts(n, how, 5), Math.min(n, 4));
                }
            }
            int[] hows = {3, 2, 2, 2};
            for (int how = 0; how < 4; how++) {
                NameNotes four = Check.told("tune x 5 2 7 1;tune y 5 3 7 1;tune z 6 2 7 1;");
                Check.due("by how " + how, four.parts(2, how, -1), hows[how]);
            }
            Check.due("of no tunes", new NameNotes().parts(9, 3, -1), 0);
        });
        Bound.promise(13, "NONE: no such ones.", () -> {
            NameNotes full = Check.told(FULL);
            for (int wrong : Check.outside(10)) {
                Check.due("notes " + wrong, full.parts(wrong, 0, -1), -1);
            }
            Check.due("by no notes", full.parts(0, 0, -1), -1);
            for (int wrong : Check.outside(4)) {
                Check.due("how " + wrong, full.parts(1, wrong, -1), -1);
            }
            for (int wrong : Check.outsideAll(6)) {
                Check.due("clue " + wrong, full.parts(1, 0, wrong), -1);
            }
            Check.due("a clue of a new object", new NameNotes().parts(1, 0, 0), -1);
        });
    }

    private static void enough() {
        Bound.promise(14, "The fewest notes by which no other TUNE that CLUE c leaves (NONE: all) is LIKE TUNE x (how 0 to 3);", () -> {
            NameNotes full = Check.told(FULL);
            for (int how = 0; how < 4; how++) {
                for (int x = 0; x < 9; x++) {
                    Check.due("of all", full.enough(x, how, -1), Math.min(x + 2, 9));
                    Check.due("of the first clue", full.enough(x, how, 0), Math.min(x + 2, 9));
                }
                Check.due("of one alone", full.enough(0, how, 1), 1);
                Check.due("of the first and the last one", full.enough(8, how, 3), 2);
                Check.due("of the two last ones", full.enough(7, how, 4), 9);
            }
        });
        Bound.promise(14, "NONE: none are, it does not leave it, no such ones.", () -> {
            NameNotes twins = Check.told("tune x 5 2;tune y 5 2;tune z 5 3;clue c x z;clue d x y;");
            Check.due("none are", twins.enough(0, 0, -1), -1);
            Check.due("none are", twins.enough(1, 0, 1), -1);
            Check.due("none are in pitch", twins.enough(2, 1, 0), -1);
            Check.due("the other one is not left", twins.enough(0, 0, 0), 1);
            Check.due("it is not left", twins.enough(1, 0, 0), -1);
            NameNotes full = Check.told(FULL);
            for (int wrong : Check.outside(9)) {
                Check.due("tune " + wrong, full.enough(wrong, 0, -1), -1);
            }
            for (int wrong : Check.outside(4)) {
                Check.due("how " + wrong, full.enough(0, wrong, -1), -1);
            }
            for (int wrong : Check.outsideAll(6)) {
                Check.due("clue " + wrong, full.enough(0, 0, wrong), -1);
            }
            Check.due("a fourth tune", Check.told(SMALL).enough(3, 0, -1), -1);
        });
    }
}
