/** Promises 47 to 59: evenings, nights, texts, sentences and images. */
final class TellBounds {
    private static final String SMALL = TestStudios.SMALL;
    private static final String FULL = TestStudios.FULL;
    private static final String HEARD = "tune x 5 2;tune y 5 2;clue c x;clue d x y;person a;person b;person e;"
            + "knows a x 3;knows b x 9;knows b y 9;from 6;";
    /** Draws decide who wins. */
    private static final String DRAWN = "tune x 5 2;tune y 5 2;clue c x y;clue d y;person a;person b;knows a x 5;knows a y 4;"
            + "knows b x 3;knows b y 6;from 2;";

    private TellBounds() {
    }

    static void run() {
        evening();
        heard();
        told();
        night();
        nightly();
        nights();
        write();
        byteAt();
        sentence();
        said();
        image();
        restore();
        count();
    }

    private static void evening(String text, int due) {
        Check.due("evening '" + text + "'", Check.evening(Check.told(HEARD), text), due);
    }

    private static void evening() {
        Bound.promise(47, "The tape is an EVENING: the LINE that is WRONG (from 0; that of the CLUE counted);", () -> {
            evening("clue c;a name;", 1);
            evening("clue c;a 7;b 6;", 1);
            evening("clue c;a 6;b 6;", 2);
            evening("clue c;a 6;b 5;a 4;b 3;a 2;b 1;a 1;", 7);
            evening("clue c;a 6;b name;a 5;b 4;", 3);
            evening("clue c;a 9;" + "b 8;".repeat(97), 1);
            NameNotes notes = Check.told(HEARD);
            Check.evening(notes, "clue c;");
            Check.due("the tape is empty", notes.count(4), 0);
        });
        Bound.promise(47, "NONE: none;", () -> {
            evening("clue c;", -1);
            evening("clue d;e 6;", -1);
            evening("clue c;a 6;b 5;a 4;b 3;a 2;b 1;a name;", -1);
        });
        Bound.promise(47, "-2 less the place of a FAULT.", () -> {
            evening("", -2);
            evening("!", -2);
            evening("clue q;", -7);
            evening("clue c;a 0;", -11);
            evening("clue c;a name;q name;", -16);
            evening("clue c;" + " ".repeat(394), -402);
            Check.due("an empty tape", new NameNotes().evening(), -2);
        });
    }

    private static void heard(String text, int... due) {
        NameNotes notes = Check.told(HEARD);
        Check.evening(notes, text);
        for (int what = 0; what < 5; what++) {
            Check.due("heard(" + what + ") of '" + text + "'", notes.heard(what), due[what]);
        }
    }

    private static void heard() {
        Bound.promise(48, "Of the latest evening() without a FAULT: 0 why it was WRONG (0: it was not), 1 the latest bid (0: none),"
                + " 2 who bid it (NONE), 3 who said NAME IT (NONE), 4 who is to speak (NONE: whoever will, or it is over).", () -> {
            heard("clue c;", 0, 0, -1, -1, -1);
            heard("clue c;a 6;", 0, 6, 0, -1, -1);
            heard("clue c;e 6;b 1;", 0, 1, 1, -1, 2);
            heard("clue c;e 6;b 5;e 4;", 0, 4, 2, -1, 1);
            heard("clue c;a 6;e name;", 0, 6, 0, 2, -1);
            heard("clue c;a 6;b 5;a name;", 0, 5, 1, 0, -1);
            heard("clue c;a 6;b name;a 5;", 1, 6, 0, 1, -1);
            heard("clue c;a 6;a 5;", 2, 6, 0, -1, -1);
            heard("clue c;a 6;b 5;e 4;a 3;", 2, 5, 1, -1, 0);
            heard("clue c;a 7;b 5;", 3, 0, -1, -1, -1);
            heard("clue c;a 6;b 5;a 5;", 3, 5, 1, -1, 0);
            heard("clue c;a name;", 4, 0, -1, -1, -1);
            NameNotes notes = Check.told(HEARD);
            Check.evening(notes, "clue c;a 6;b 5;");
            Check.evening(notes, "clue c;a 4;b 3;a 0;");
            Check.due("behind one with a fault", notes.heard(1), 5);
            Check.evening(notes, "clue c;");
            Check.due("behind another one", notes.heard(1), 0);
            Check.due("behind another one", notes.heard(4), -1);
            Check.evening(notes, "clue c;a 6;b 6;");
            Check.due("a wrong one", notes.heard(0), 3);
            Check.evening(notes, "clue c;");
            Check.due("behind a wrong one", notes.heard(0), 0);
        });
        Bound.promise(48, "NONE: another what, or ahead of any.", () -> {
            NameNotes notes = Check.told(HEARD);
            for (int what = 0; what < 5; what++) {
                Check.due("ahead of any", notes.heard(what), -1);
            }
            Check.evening(notes, "clue c;a 0;");
            Check.due("a fault is none", notes.heard(0), -1);
            Check.evening(notes, "clue c;a 6;");
            for (int wrong : Check.outside(5)) {
                Check.due("what " + wrong, notes.heard(wrong), -1);
            }
        });
    }

    private static void told() {
        Bound.promise(49, "By what odds she who must name it does so, by the latest evening() that was not WRONG and is over.", () -> {
            NameNotes notes = Check.told(HEARD);
            Check.evening(notes, "clue c;b 6;a 5;b name;");
            Check.fraction("a", 1, 3, notes::told);
            Check.evening(notes, "clue d;e 6;b 1;e name;");
            Check.fraction("b", 1, 2, notes::told);
            Check.evening(notes, "clue d;e 6;b name;");
            Check.fraction("e", 0, 1, notes::told);
            notes.teach(2, 0, 6);
            Check.fraction("e, who has learnt", 1, 3, notes::told);
            Check.evening(notes, "clue q;");
            Check.fraction("behind one with a fault", 1, 3, notes::told);
            NameNotes full = Check.told(FULL);
            for (int n = 1; n <= 9; n++) {
                Check.evening(full, "clue ca;pa " + n + ";pe name;");
                Ratio.of(n, 9).due("by " + n, full.told(0), full.told(1));
            }
        });
        Bound.promise(49, "NoSuchElementException: ahead of any, it was WRONG, or is not over, another STUDIO than this was told.", () -> {
            Check.noFraction("a new object", w -> new NameNotes().told(w));
            NameNotes notes = Check.told(HEARD);
            Check.noFraction("ahead of any", notes::told);
            Check.evening(notes, "clue c;b 6;a name");
            Check.noFraction("a fault is none", notes::told);
            Check.evening(notes, "clue c;");
            Check.noFraction("not begun", notes::told);
            Check.evening(notes, "clue c;b 6;a 5;");
            Check.noFraction("not over", notes::told);
            Check.evening(notes, "clue c;b 6;a name;b 5;");
            Check.noFraction("wrong behind its end", notes::told);
            Check.evening(notes, "clue c;b name;");
            Check.noFraction("wrong", notes::told);
            Check.evening(notes, "clue c;b 6;a name;");
            Check.fraction("over", 1, 1, notes::told);
            for (int wrong : Check.outside(2)) {
                Check.throwsNoSuch("what " + wrong, () -> notes.told(wrong));
            }
            notes.image(0);
            Check.studio(notes, "!");
            Check.fraction("no studio was told", 1, 1, notes::told);
            Check.studio(notes, HEARD);
            Check.noFraction("another studio", notes::told);
            notes.image(1);
            notes.restore(0);
            Check.fraction("its own studio again", 1, 1, notes::told);
            notes.restore(1);
            Check.noFraction("another studio", notes::told);
        });
    }

    private static void night() {
        Bound.promise(50, "A NIGHT of PERSONS p and q by a seed: 1 p wins, -1 q;", () -> {
            NameNotes full = Check.told(FULL);
            NameNotes drawn = Check.told(DRAWN);
            int wins = 0;
            for (int seed : new int[] {0, 1, 2, 3, 4, 5, -1, -2, Integer.MAX_VALUE, Integer.MIN_VALUE}) {
                Check.due("one who knows all", full.night(0, 1, seed), 1);
                Check.due("one who knows none", full.night(3, 0, seed), -1);
                int first = drawn.night(0, 1, seed);
                Check.due("the same seed", drawn.night(0, 1, seed), first);
                wins += first;
            }
            Check.due("some are won, some lost", wins > -10 && wins < 10, true);
        });
        Bound.promise(50, "-2: no such ones, p alone, no CLUES.", () -> {
            NameNotes full = Check.told(FULL);
            for (int wrong : Check.outside(5)) {
                Check.due("person p " + wrong, full.night(wrong, 0, 1), -2);
                Check.due("person q " + wrong, full.night(0, wrong, 1), -2);
            }
            Check.due("p alone", full.night(0, 0, 1), -2);
            Check.due("p alone", full.night(4, 4, 1), -2);
            Check.due("a third person", Check.told(SMALL).night(0, 2, 1), -2);
            Check.due("no clues", Check.told("tune x 5 2;person a;person b;").night(0, 1, 1), -2);
            Check.due("a new object", new NameNotes().night(0, 1, 1), -2);
        });
    }

    private static void nightly() {
        Bound.promise(51, "Of the latest night() that was not -2: 0 ROUNDS, 1 points of p, 2 of q, 3 how often it was named right, 4"
                + " the least bid.", () -> {
            NameNotes notes = Check.told("tune x 5 2;clue c x;person a;person b;knows a x 9;from 4;");
            notes.night(0, 1, 1);
            nightly(notes, 3, 3, 0, 3, 3);
            notes.night(1, 0, 1);
            nightly(notes, 3, 0, 3, 3, 3);
            notes.night(0, 0, 1);
            notes.night(0, 2, 1);
            notes.nights(0, 1, 5, 1);
            nightly(notes, 3, 0, 3, 3, 3);
            notes.teach(0, 0, 0);
            Check.due("who speaks first is wrong", notes.night(0, 1, 1), -1);
            nightly(notes, 5, 2, 3, 0, 4);
            Check.studio(notes, "person a;");
            notes.night(0, 1, 1);
            nightly(notes, 5, 2, 3, 0, 4);
        });
        Bound.promise(51, "NONE: another what, or ahead of any.", () -> {
            NameNotes notes = Check.told(DRAWN);
            notes.night(0, 0, 1);
            notes.nights(0, 1, 9, 1);
            nightly(notes, -1, -1, -1, -1, -1);
            notes.night(0, 1, 1);
            for (int wrong : Check.outside(5)) {
                Check.due("what " + wrong, notes.nightly(wrong), -1);
            }
        });
    }

    private static void nightly(NameNotes notes, int... due) {
        for (int what = 0; what < 5; what++) {
            Check.due("nightly(" + what + ")", notes.nightly(what), due[what]);
        }
    }

    private static void nights() {
        Bound.promise(52, "Of n (1 to 100) NIGHTS by seeds x, x and 1, .. how many p wins;", () -> {
            NameNotes drawn = Check.told(DRAWN);
            for (int seed : new int[] {0, -3, 1000, Integer.MAX_VALUE - 1, Integer.MIN_VALUE}) {
                int wins = 0;
                for (int i = 0; i < 100; i++) {
                    wins += drawn.night(0, 1, seed + i) == 1 ? 1 : 0;
                    if (i < 3 || i > 97) {
                        Check.due("nights(.., " + (i + 1) + ", " + seed + ")", drawn.nights(0, 1, i + 1, seed), wins);
                    }
                }
            }
            Check.due("all of 100", Check.told(FULL).nights(0, 1, 100, 7), 100);
            Check.due("none of 100", Check.told(FULL).nights(1, 0, 100, 7), 0);
        });
        Bound.promise(52, "NONE: not as told, as night() is -2.", () -> {
            NameNotes full = Check.told(FULL);
            for (int wrong : new int[] {0, -1, 101, Integer.MAX_VALUE, Integer.MIN_VALUE}) {
                Check.due(wrong + " nights", full.nights(0, 1, wrong, 1), -1);
            }
            for (int wrong : Check.outside(5)) {
                Check.due("person p " + wrong, full.nights(wrong, 0, 1, 1), -1);
                Check.due("person q " + wrong, full.nights(0, wrong, 1, 1), -1);
            }
            Check.due("p alone", full.nights(0, 0, 1, 1), -1);
            Check.due("no clues", Check.told("tune x 5 2;person a;person b;").nights(0, 1, 1, 1), -1);
        });
    }

    private static void write() {
        Bound.promise(53, "TUNE x as a text: of each note PITCH and LENGTH, one blank (32) ahead of each number but the first: how"
                + " many bytes;", () -> {
            NameNotes notes = Check.told("tune x 0 1;tune y 09 09 10 1;tune z 24 9 24 9 24 9 24 9 24 9 24 9 24 9 24 9 24 9;");
            Check.due("the shortest", notes.write(0), 3);
            Check.due("text", Check.text(notes), "0 1");
            Check.due("two notes", notes.write(1), 8);
            Check.due("text", Check.text(notes), "9 9 10 1");
            Check.due("the longest", notes.write(2), 44);
            Check.due("text", Check.text(notes), "24 9" + " 24 9".repeat(8));
            Check.due("the ninth tune", Check.told(FULL).write(8), 35);
            for (int pitch = 0; pitch <= 24; pitch++) {
                NameNotes one = Check.told("tune x " + pitch + " 1;");
                one.write(0);
                Check.due("text", Check.text(one), pitch + " 1");
            }
        });
        Bound.promise(53, "NONE: no such one.", () -> {
            NameNotes full = Check.told(FULL);
            full.write(1);
            for (int wrong : Check.outside(9)) {
                Check.due("tune " + wrong, full.write(wrong), -1);
            }
            Check.due("the text made last stays", Check.text(full), "5 2 5 2");
            Check.due("a fourth tune", Check.told(SMALL).write(3), -1);
            Check.due("a new object", new NameNotes().write(0), -1);
        });
    }

    private static void byteAt() {
        Bound.promise(54, "Byte i of the text made last; NONE: there is none such.", () -> {
            NameNotes notes = Check.told(SMALL);
            Check.due("no text", notes.byteAt(0), -1);
            notes.play(0, 1, 0);
            Check.due("the first of a play", notes.byteAt(0), 'c');
            Check.due("its last", notes.byteAt(21), ';');
            Check.due("behind it", notes.byteAt(22), -1);
            notes.write(2);
            Check.due("the first of a tune", notes.byteAt(0), '6');
            Check.due("a blank", notes.byteAt(1), 32);
            Check.due("its last", notes.byteAt(6), '1');
            for (int wrong : new int[] {7, 8, 21, 200, Integer.MAX_VALUE, -1, Integer.MIN_VALUE}) {
                Check.due("byteAt(" + wrong + ")", notes.byteAt(wrong), -1);
            }
            Check.studio(notes, "");
            Check.due("behind a new studio", notes.byteAt(0), '6');
        });
    }

    private static void sentence() {
        Bound.promise(55, "The tape is the SENTENCE now: how many ONES (each not, bracket and other one);", () -> {
            NameNotes notes = Check.told(SMALL);
            Check.due("one", Check.sentence(notes, "in c"), 1);
            Check.due("a not", Check.sentence(notes, "not in c"), 2);
            Check.due("a bracket", Check.sentence(notes, "(in c)"), 2);
            Check.due("all three", Check.sentence(notes, "not (in c or sure b)"), 4);
            Check.due("it is the latest one", notes.said(-1), 1);
            Check.due("the tape is empty", notes.count(4), 0);
            Check.due("twenty", Check.sentence(notes, "in c" + " or in c".repeat(19)), 20);
        });
        Bound.promise(55, "-1 less the place of a FAULT: it stays.", () -> {
            NameNotes notes = Check.told(SMALL);
            Check.sentence(notes, "in c and high>8");
            Check.due("nothing", notes.sentence(), -1);
            Check.due("a fault at 0", Check.sentence(notes, "!"), -1);
            Check.due("a fault behind a whole one", Check.sentence(notes, "like z or not in q"), -18);
            Check.due("a fault at the end", Check.sentence(notes, "like z or"), -10);
            Check.due("too many bytes", Check.sentence(notes, "like z" + " ".repeat(195)), -201);
            Check.due("how many it is said of", notes.said(-1), 1);
            Check.due("which", notes.said(0), 0);
            NameNotes none = Check.told(SMALL);
            Check.sentence(none, "in c and");
            Check.due("none stays", none.said(-1), -1);
        });
    }

    private static void said() {
        Bound.promise(56, "TUNES of which it may be said: how many (k NONE), or the k-th one's number.", () -> {
            NameNotes full = Check.told(FULL);
            Check.sentence(full, "beats>0");
            Check.due("of all", full.said(-1), 9);
            for (int k = 0; k < 9; k++) {
                Check.due("said(" + k + ")", full.said(k), k);
            }
            Check.sentence(full, "in ce");
            Check.due("of two", full.said(-1), 2);
            Check.due("the first one", full.said(0), 7);
            Check.due("the second one", full.said(1), 8);
            Check.sentence(full, "beats<1");
            Check.due("of none", full.said(-1), 0);
        });
        Bound.promise(56, "NONE: there is no SENTENCE, none such.", () -> {
            Check.due("a new object", new NameNotes().said(-1), -1);
            NameNotes full = Check.told(FULL);
            Check.due("no sentence", full.said(-1), -1);
            Check.due("no sentence", full.said(0), -1);
            Check.sentence(full, "beats<1");
            Check.due("of none", full.said(0), -1);
            Check.sentence(full, "beats>0");
            for (int wrong : new int[] {9, 10, Integer.MAX_VALUE, -2, Integer.MIN_VALUE}) {
                Check.due("said(" + wrong + ")", full.said(wrong), -1);
            }
            Check.studio(full, "tune x 5 2;");
            Check.due("a new studio", full.said(-1), -1);
        });
    }

    private static void image() {
        Bound.promise(57, "STUDIO, what is known now, dares and SENTENCE are kept in place k (0, 1): true;", () -> {
            for (int k = 0; k < 2; k++) {
                NameNotes notes = Check.told(FULL);
                notes.teach(4, 8, 2);
                notes.dares(4, 3);
                Check.sentence(notes, "in ce");
                Check.due("image(" + k + ")", notes.image(k), true);
                Check.studio(notes, SMALL);
                Check.due("the other place", notes.image(1 - k), true);
                Check.due("restore(" + k + ")", notes.restore(k), true);
                Check.due("tunes", notes.count(0), 9);
                Check.due("clues", notes.count(1), 6);
                Check.due("persons", notes.count(2), 5);
                Check.due("from", notes.count(3), 9);
                Check.due("the last note", notes.note(8, 8, 0), 5);
                Check.due("the last clue", notes.clue(5), 15);
                Check.due("knows", notes.knows(4, 8), 2);
                Check.due("dare", notes.dare(4), 3);
                Check.due("sentence", notes.said(0), 7);
                Check.due("names", Check.evening(notes, "clue cf;pe 9;"), -1);
                Check.due("alike", notes.alike(7, 8, 3), 8);
                Check.due("the other place", notes.restore(1 - k), true);
                Check.due("tunes", notes.count(0), 3);
                Check.due("from", notes.count(3), 4);
                Check.due("no sentence", notes.said(-1), -1);
            }
            NameNotes notes = Check.told(SMALL);
            notes.teach(0, 0, 1);
            notes.image(0);
            Check.due("undo behind an image", notes.undo(), 0);
            notes.teach(0, 0, 2);
            Check.due("over the first one", notes.image(0), true);
            notes.teach(0, 0, 3);
            notes.restore(0);
            Check.due("knows", notes.knows(0, 0), 2);
        });
        Bound.promise(57, "false: no such one.", () -> {
            NameNotes notes = Check.told(SMALL);
            for (int wrong : Check.outside(2)) {
                Check.due("image(" + wrong + ")", notes.image(wrong), false);
            }
            Check.due("nothing was kept", notes.restore(0) || notes.restore(1), false);
        });
    }

    private static void restore() {
        Bound.promise(58, "They are as kept in place k (the tape, and what other calls told last, stays; nothing can be undone): true;", () -> {
            NameNotes notes = Check.told(SMALL);
            notes.teach(0, 0, 1);
            notes.image(1);
            notes.teach(0, 0, 2);
            notes.dares(0, 1);
            Check.sentence(notes, "in d");
            Check.evening(notes, "clue c;a 4;b 3;");
            notes.night(0, 1, 1);
            int rounds = notes.nightly(0);
            notes.write(2);
            Check.studio(notes, "from 0;");
            Check.feed(notes, "tune q 1 1;");
            for (int i = 0; i < 2; i++) {
                Check.due("restore", notes.restore(1), true);
                Check.due("undo", notes.undo(), -1);
                Check.due("knows", notes.knows(0, 0), 1);
                Check.due("dare", notes.dare(0), 5);
                Check.due("no sentence", notes.said(-1), -1);
                Check.due("bytes", notes.count(4), 11);
                Check.due("heard", notes.heard(1), 3);
                Check.due("nightly", notes.nightly(0), rounds);
                Check.due("text", Check.text(notes), "6 2 8 1");
                Check.due("fault", notes.fault(), 2);
                notes.teach(0, 0, 7);
                notes.dares(0, 9);
            }
            Check.due("what was done since", notes.undo(), 1);
            Check.due("the tape is as it was", notes.studio(), 1);
            Check.due("behind a new studio", notes.restore(1), true);
            Check.due("tunes", notes.count(0), 3);
            NameNotes empty = new NameNotes();
            empty.image(0);
            Check.studio(empty, FULL);
            Check.due("an empty studio", empty.restore(0), true);
            Check.due("tunes", empty.count(0), 0);
            Check.due("from", empty.count(3), 9);
        });
        Bound.promise(58, "false: no such one, or nothing is kept there.", () -> {
            NameNotes notes = Check.told(SMALL);
            notes.teach(0, 0, 1);
            Check.due("nothing is kept", notes.restore(0), false);
            Check.due("nothing is kept", notes.restore(1), false);
            notes.image(1);
            Check.due("nothing is kept there", notes.restore(0), false);
            for (int wrong : Check.outside(2)) {
                Check.due("restore(" + wrong + ")", notes.restore(wrong), false);
            }
            Check.due("undo stays", notes.undo(), 0);
        });
    }

    private static void count() {
        Bound.promise(59, "0 TUNES, 1 CLUES, 2 PERSONS, 3 'from', 4 bytes of the tape.", () -> {
            NameNotes full = Check.told(FULL + "from 1;");
            full.feed(0, 0, 0, 0, 0);
            int[] due = {9, 6, 5, 1, 20};
            for (int what = 0; what < 5; what++) {
                Check.due("count(" + what + ")", full.count(what), due[what]);
            }
            Check.due("without 'from'", new NameNotes().count(3), 9);
        });
        Bound.promise(59, "NONE for another what.", () -> {
            for (int wrong : Check.outside(5)) {
                Check.due("count(" + wrong + ")", Check.told(FULL).count(wrong), -1);
            }
        });
    }
}
