/** Promises 32 to 46: what persons learn and forget, matches, and how tunes lie to one another. */
final class ChangeBounds {
    private static final String SMALL = TestStudios.SMALL;
    private static final String FULL = TestStudios.FULL;

    private ChangeBounds() {
    }

    static void run() {
        teach();
        dares();
        undo();
        match();
        bold();
        lessons();
        copies();
        twins();
        alike();
        apart();
        nearest();
        rank();
        commonest();
        cover();
    }

    private static void teach() {
        Bound.promise(32, "PERSON p knows TUNE x by k of 9 from now on: true;", () -> {
            NameNotes full = Check.told(FULL);
            for (int k = 1; k <= 9; k++) {
                Check.due("teach", full.teach(3, 8, k), true);
                Check.due("knows", full.knows(3, 8), k);
            }
            Check.due("teach 0", full.teach(3, 8, 0), true);
            Check.due("knows", full.knows(3, 8), 0);
            Check.due("the first of all", full.teach(0, 0, 8), true);
            Check.due("knows", full.knows(0, 0), 8);
            Check.due("another tune", full.knows(0, 1), 9);
            Check.due("another person", full.knows(1, 0), 0);
            Check.fraction("odds from now on", 8, 9, w -> full.odds(0, 1, 1, w));
        });
        Bound.promise(32, "false: no such ones, she does so already.", () -> {
            NameNotes full = Check.told(FULL);
            for (int wrong : Check.outside(5)) {
                Check.due("person " + wrong, full.teach(wrong, 0, 1), false);
            }
            for (int wrong : Check.outside(9)) {
                Check.due("tune " + wrong, full.teach(0, wrong, 1), false);
            }
            for (int wrong : Check.outside(10)) {
                Check.due("k " + wrong, full.teach(0, 0, wrong), false);
            }
            Check.due("so already", full.teach(0, 0, 9), false);
            Check.due("so already, told or not", full.teach(1, 0, 0), false);
            full.teach(1, 0, 4);
            Check.due("so already, taught", full.teach(1, 0, 4), false);
            Check.due("one was done", full.undo(), 0);
            Check.due("a fourth tune", Check.told(SMALL).teach(0, 3, 1), false);
            Check.due("a third person", Check.told(SMALL).teach(2, 0, 1), false);
        });
    }

    private static void dares() {
        Bound.promise(33, "'dare' of PERSON p is k (0 to 9) from now on: true;", () -> {
            NameNotes full = Check.told(FULL);
            for (int k = 0; k <= 9; k++) {
                Check.due("dares", full.dares(4, k), true);
                Check.due("dare", full.dare(4), k);
            }
            Check.due("the first one", full.dares(0, 9), true);
            Check.due("dare", full.dare(0), 9);
            Check.due("another one", full.dare(1), 5);
            NameNotes rule = Check.told("tune x 5 2;clue c x;person a;person b;knows b x 4;");
            Check.fraction("her rule ahead of it", 0, 1, w -> rule.gains(0, 1, 0, 0, w));
            rule.dares(1, 4);
            Check.fraction("her rule from now on", 5, 9, w -> rule.gains(0, 1, 0, 0, w));
        });
        Bound.promise(33, "false: no such ones, it is so already.", () -> {
            NameNotes full = Check.told(FULL);
            for (int wrong : Check.outside(5)) {
                Check.due("person " + wrong, full.dares(wrong, 1), false);
            }
            for (int wrong : Check.outside(10)) {
                Check.due("k " + wrong, full.dares(0, wrong), false);
            }
            Check.due("so already, told", full.dares(4, 9), false);
            Check.due("so already without", full.dares(0, 5), false);
            Check.due("nothing was done", full.undo(), -1);
        });
    }

    private static void undo() {
        Bound.promise(34, "The latest of teach(), dares(), copies() that was done is undone: how many more can be (8 at most are"
                + " kept);", () -> {
            NameNotes full = Check.told(FULL);
            full.teach(0, 0, 3);
            full.dares(0, 3);
            full.copies(4, 0);
            Check.due("of copies()", full.undo(), 2);
            Check.due("knows", full.knows(4, 0), 0);
            Check.due("knows", full.knows(4, 8), 9);
            Check.due("of dares()", full.undo(), 1);
            Check.due("dare", full.dare(0), 5);
            Check.due("knows", full.knows(0, 0), 3);
            Check.due("of teach()", full.undo(), 0);
            Check.due("knows", full.knows(0, 0), 9);
            for (int k = 1; k <= 8; k++) {
                full.dares(4, k);
            }
            Check.due("eight are kept", full.undo(), 7);
            full.dares(4, 0);
            full.teach(4, 0, 1);
            for (int left = 7; left >= 0; left--) {
                Check.due("of eight and one more", full.undo(), left);
            }
            Check.due("no ninth", full.undo(), -1);
            for (int k = 1; k <= 9; k++) {
                full.teach(3, 0, k);
            }
            for (int left = 7; left >= 0; left--) {
                Check.due("of nine", full.undo(), left);
                Check.due("knows", full.knows(3, 0), left + 1);
            }
            Check.due("what the first one did", full.dare(4), 1);
            Check.due("taught", full.knows(4, 0), 0);
        });
        Bound.promise(34, "NONE: none is.", () -> {
            Check.due("a new object", new NameNotes().undo(), -1);
            NameNotes small = Check.told(SMALL);
            Check.due("none", small.undo(), -1);
            small.teach(0, 0, 9);
            small.dares(1, 2);
            small.copies(0, 0);
            Check.due("none was done", small.undo(), -1);
            small.teach(0, 0, 8);
            Check.due("one", small.undo(), 0);
            Check.due("none more", small.undo(), -1);
            Check.due("knows", small.knows(0, 0), 9);
        });
    }

    private static void match() {
        Bound.promise(35, "MATCH: odds to win it from a score of own and other points (0 to 2), each ROUND won by k of 9.", () -> {
            NameNotes notes = new NameNotes();
            for (int own = 0; own < 3; own++) {
                for (int other = 0; other < 3; other++) {
                    int mine = own;
                    int yours = other;
                    Check.fraction("by 0", 0, 1, w -> notes.match(mine, yours, 0, w));
                    Check.fraction("by 9", 1, 1, w -> notes.match(mine, yours, 9, w));
                }
            }
            Check.fraction("from the start", 17, 81, w -> notes.match(0, 0, 3, w));
            Check.fraction("at 2 and 2", 1, 9, w -> notes.match(2, 2, 1, w));
            Check.fraction("at 2 and 1", 17, 81, w -> notes.match(2, 1, 1, w));
            Check.fraction("at 1 and 2", 1, 81, w -> notes.match(1, 2, 1, w));
            Check.fraction("at 0 and 2", 1, 729, w -> notes.match(0, 2, 1, w));
        });
        Bound.promise(35, "NoSuchElementException: no such ones.", () -> {
            NameNotes notes = new NameNotes();
            for (int wrong : Check.outside(3)) {
                Check.noFraction("own " + wrong, w -> notes.match(wrong, 0, 1, w));
                Check.noFraction("other " + wrong, w -> notes.match(0, wrong, 1, w));
            }
            for (int wrong : Check.outside(10)) {
                Check.noFraction("k " + wrong, w -> notes.match(0, 0, wrong, w));
            }
            for (int wrong : Check.outside(2)) {
                Check.throwsNoSuch("what " + wrong, () -> notes.match(0, 0, 1, wrong));
            }
        });
    }

    private static void bold() {
        NameNotes notes = new NameNotes();
        Bound.promise(36, "In a MATCH in which one may be BOLD: 1 to be so in the next ROUND is better, 0: not, or alike;", () -> {
            for (int k = 0; k <= 9; k++) {
                for (int j = 0; j <= 9; j++) {
                    Check.due("at 2 and 2, by " + k + " and " + j, notes.bold(2, 2, k, j), j > k ? 1 : 0);
                }
            }
            Check.due("worse", notes.bold(2, 0, 4, 4), 0);
            Check.due("alike", notes.bold(0, 2, 4, 4), 0);
            Check.due("better", notes.bold(1, 2, 4, 4), 1);
            // 4 of 9 twice is 16 of 81, less than 2 of 9
            Check.due("better by less than half", notes.bold(1, 2, 4, 2), 1);
            Check.due("no better", notes.bold(1, 2, 4, 1), 0);
            Check.due("alike at the start", notes.bold(0, 0, 0, 0), 0);
            Check.due("alike at the start", notes.bold(0, 0, 9, 9), 0);
        });
        Bound.promise(36, "NONE: no such ones (k, j 0 to 9).", () -> {
            for (int wrong : Check.outside(3)) {
                Check.due("own " + wrong, notes.bold(wrong, 0, 1, 1), -1);
                Check.due("other " + wrong, notes.bold(0, wrong, 1, 1), -1);
            }
            for (int wrong : Check.outside(10)) {
                Check.due("k " + wrong, notes.bold(0, 0, wrong, 1), -1);
                Check.due("j " + wrong, notes.bold(0, 0, 1, wrong), -1);
            }
        });
        Bound.promise(37, "Odds to win it then.", () -> {
            Check.fraction("bold twice or more", 1, 1, w -> notes.bolder(0, 0, 0, 9, w));
            Check.fraction("never bold", 1, 1, w -> notes.bolder(0, 0, 9, 0, w));
            Check.fraction("never", 0, 1, w -> notes.bolder(2, 0, 0, 0, w));
            Check.fraction("bold at 1 and 2", 2, 9, w -> notes.bolder(1, 2, 4, 2, w));
            Check.fraction("not bold at 1 and 2", 16, 81, w -> notes.bolder(1, 2, 4, 1, w));
            // 5/9 * 65/81 + 4/9 * 25/81: a lost one counts two points, too
            Check.fraction("bold alone wins", 425, 729, w -> notes.bolder(0, 0, 0, 5, w));
            Check.due("bold alone wins", notes.bold(0, 0, 0, 5), 1);
            Check.fraction("as in a match", 17, 81, w -> notes.bolder(0, 0, 3, 0, w));
        });
        Bound.promise(37, "NoSuchElementException: no such ones.", () -> {
            for (int wrong : Check.outside(3)) {
                Check.noFraction("own " + wrong, w -> notes.bolder(wrong, 0, 1, 1, w));
                Check.noFraction("other " + wrong, w -> notes.bolder(0, wrong, 1, 1, w));
            }
            for (int wrong : Check.outside(10)) {
                Check.noFraction("k " + wrong, w -> notes.bolder(0, 0, wrong, 1, w));
                Check.noFraction("j " + wrong, w -> notes.bolder(0, 0, 1, wrong, w));
            }
            for (int wrong : Check.outside(2)) {
                Check.throwsNoSuch("what " + wrong, () -> notes.bolder(0, 0, 1, 1, wrong));
            }
        });
    }

    private static void lessons() {
        Bound.promise(38, "The fewest TUNES of CLUE c, as bits, that PERSON p is to know for sure so that her ODDS by n notes"
                + " behind it are k (0 to 9) of 9 or more (of like ones the least set as bits);", () -> {
            NameNotes full = Check.told(FULL);
            for (int k = 0; k <= 9; k++) {
                Check.due("just " + k + " of 9", full.lessons(1, 9, 0, k), (1 << k) - 1);
                Check.due("all known", full.lessons(0, 9, 0, k), 0);
                Check.due("the last one known", full.lessons(4, 9, 0, k), k == 0 ? 0 : (1 << k - 1) - 1);
            }
            Check.due("of the clue alone", full.lessons(1, 9, 4, 4), 128);
            Check.due("of the clue alone", full.lessons(1, 9, 4, 5), 384);
            NameNotes last = Check.told("tune x 1 1;tune y 2 1;tune z 3 1;clue c x y z;person a;knows a x 3;knows a y 3;");
            Check.due("the last one alone is enough, as the two others are", last.lessons(0, 1, 0, 5), 4);
            Check.due("two are needed", last.lessons(0, 1, 0, 6), 3);
            Check.due("5 of 9 are known", full.lessons(2, 1, 2, 5), 0);
            Check.due("6 of 9 are not", full.lessons(2, 1, 2, 6), 256);
            Check.due("knows as before", full.knows(1, 0), 0);
        });
        Bound.promise(38, "NONE: none are enough, no such ones.", () -> {
            NameNotes full = Check.told(FULL);
            Check.due("none are enough", full.lessons(0, 1, 0, 2), -1);
            Check.due("none are enough", full.lessons(1, 8, 0, 9), -1);
            for (int wrong : Check.outside(5)) {
                Check.due("person " + wrong, full.lessons(wrong, 1, 0, 0), -1);
            }
            for (int wrong : Check.outside(10)) {
                Check.due("notes " + wrong, full.lessons(0, wrong, 0, 0), -1);
                Check.due("k " + wrong, full.lessons(0, 1, 0, wrong), -1);
            }
            Check.due("no notes", full.lessons(0, 0, 0, 0), -1);
            for (int wrong : Check.outside(6)) {
                Check.due("clue " + wrong, full.lessons(0, 1, wrong, 0), -1);
            }
        });
    }

    private static void copies() {
        Bound.promise(39, "PERSON p knows all TUNES as PERSON q does from now on: how many she knew otherwise (0: nothing is done);", () -> {
            NameNotes full = Check.told(FULL);
            Check.due("all of nine", full.copies(3, 0), 9);
            Check.due("none of them now", full.copies(3, 0), 0);
            Check.due("the last one", full.copies(4, 1), 1);
            Check.due("her own", full.copies(2, 2), 0);
            Check.due("by 0 as without", full.copies(1, 4), 0);
            for (int x = 0; x < 9; x++) {
                Check.due("knows", full.knows(3, x), 9);
                Check.due("the other one knows", full.knows(0, x), 9);
                Check.due("knows none", full.knows(4, x), 0);
            }
            Check.due("dare is her own", full.dare(4), 9);
            Check.due("two were done", full.undo(), 1);
            Check.due("back at once", full.knows(4, 8), 9);
            NameNotes small = Check.told(SMALL);
            small.teach(0, 1, 4);
            Check.due("two of three", small.copies(1, 0), 2);
            Check.due("each as it is known", small.knows(1, 0), 9);
            Check.due("each as it is known", small.knows(1, 1), 4);
            Check.due("each as it is known", small.knows(1, 2), 0);
            for (int p = 0; p < 5; p++) {
                others(p, (p + 1) % 5);
                others(p, (p + 4) % 5);
            }
            Check.due("of no tunes", Check.told("person a;person b;").copies(0, 1), 0);
        });
        Bound.promise(39, "NONE: no such ones.", () -> {
            NameNotes full = Check.told(FULL);
            for (int wrong : Check.outside(5)) {
                Check.due("person p " + wrong, full.copies(wrong, 0), -1);
                Check.due("person q " + wrong, full.copies(0, wrong), -1);
                Check.due("both " + wrong, full.copies(wrong, wrong), -1);
            }
            Check.due("a third person", Check.told(SMALL).copies(0, 2), -1);
            Check.due("nothing was done", full.undo(), -1);
        });
    }

    /** What the others know stays as it is. */
    private static void others(int p, int q) {
        NameNotes full = Check.told(FULL);
        NameNotes same = Check.told(FULL);
        full.copies(p, q);
        for (int other = 0; other < 5; other++) {
            for (int x = 0; x < 9; x++) {
                Check.due("known by " + other + ", copies(" + p + ", " + q + ")", full.knows(other, x), same.knows(other == p ? q : other, x));
            }
        }
        full.undo();
        for (int other = 0; other < 5; other++) {
            Check.due("known as before", full.knows(other, 0), same.knows(other, 0));
            Check.due("known as before", full.knows(other, 8), same.knows(other, 8));
        }
    }

    private static void twins() {
        Bound.promise(40, "Pairs of TUNES that CLUE c leaves (NONE: all) that are LIKE by n notes (how 0 to 3): how many (k NONE), or"
                + " the k-th (10 times the lesser number and the greater, rising).", () -> {
            NameNotes full = Check.told(FULL);
            for (int how = 0; how < 4; how++) {
                for (int n = 1; n <= 9; n++) {
                    int alike = 10 - n;
                    Check.due("how many of all", full.twins(n, how, -1, -1), alike * (alike - 1) / 2);
                    Check.due("how many of the first clue", full.twins(n, how, 0, -1), alike * (alike - 1) / 2);
                    int first = alike > 1 ? 10 * (n - 1) + n : -1;
                    Check.due("the first one", full.twins(n, how, -1, 0), first);
                    Check.due("the last one", full.twins(n, how, -1, alike * (alike - 1) / 2 - 1), alike > 1 ? 78 : alike - 1);
                }
                Check.due("of one tune", full.twins(1, how, 1, -1), 0);
                Check.due("of the first and the last one", full.twins(1, how, 3, 0), 8);
                Check.due("of the first and the last one", full.twins(1, how, 3, -1), 1);
                Check.due("by two notes", Check.told(SMALL).twins(2, how, -1, -1), how < 2 ? 1 : 3);
            }
            int k = 0;
            for (int x = 0; x < 9; x++) {
                for (int y = x + 1; y < 9; y++) {
                    Check.due("pair " + k, full.twins(1, 0, -1, k), 10 * x + y);
                    k++;
                }
            }
            Check.due("of a new object", new NameNotes().twins(9, 0, -1, -1), 0);
        });
        Bound.promise(40, "NONE: none such, no such ones.", () -> {
            NameNotes full = Check.told(FULL);
            Check.due("a 37th pair", full.twins(1, 0, -1, 36), -1);
            Check.due("of one tune", full.twins(1, 0, 1, 0), -1);
            for (int wrong : new int[] {-2, 36, 100, Integer.MAX_VALUE, Integer.MIN_VALUE}) {
                Check.due("pair " + wrong, full.twins(1, 0, -1, wrong), -1);
            }
            for (int wrong : Check.outside(10)) {
                Check.due("notes " + wrong, full.twins(wrong, 0, -1, -1), -1);
            }
            Check.due("no notes", full.twins(0, 0, -1, -1), -1);
            for (int wrong : Check.outside(4)) {
                Check.due("how " + wrong, full.twins(1, wrong, -1, -1), -1);
            }
            for (int wrong : Check.outsideAll(6)) {
                Check.due("clue " + wrong, full.twins(1, 0, wrong, -1), -1);
            }
        });
    }

    private static void alike() {
        Bound.promise(41, "By how many notes (9 at most) two TUNES are LIKE at most (how 0 to 3);", () -> {
            NameNotes full = Check.told(FULL);
            for (int how = 0; how < 4; how++) {
                for (int x = 0; x < 9; x++) {
                    for (int y = 0; y < 9; y++) {
                        Check.due("alike", full.alike(x, y, how), x == y ? 9 : Math.min(x, y) + 1);
                    }
                }
            }
            NameNotes notes = Check.told("tune x 5 2;tune y 5 2;tune z 6 3;tune u 6 2;");
            Check.due("all through", notes.alike(0, 1, 0), 9);
            Check.due("none", notes.alike(0, 2, 0), 0);
            Check.due("none in pitch", notes.alike(0, 3, 1), 0);
            Check.due("all in length", notes.alike(0, 3, 2), 9);
            Check.due("all in steps", notes.alike(0, 2, 3), 9);
        });
        Bound.promise(41, "NONE: no such ones.", () -> {
            NameNotes full = Check.told(FULL);
            for (int wrong : Check.outside(9)) {
                Check.due("tune x " + wrong, full.alike(wrong, 0, 0), -1);
                Check.due("tune y " + wrong, full.alike(0, wrong, 0), -1);
            }
            for (int wrong : Check.outside(4)) {
                Check.due("how " + wrong, full.alike(0, 1, wrong), -1);
            }
            Check.due("a fourth tune", Check.told(SMALL).alike(0, 3, 0), -1);
            Check.due("a fourth tune", Check.told(SMALL).alike(3, 0, 0), -1);
        });
    }

    private static void apart() {
        Bound.promise(42, "APART: the fewest notes that are put in, taken out or changed (PITCH, LENGTH or both) so that TUNE x is"
                + " TUNE y;", () -> {
            NameNotes full = Check.told(FULL);
            for (int x = 0; x < 9; x++) {
                for (int y = 0; y < 9; y++) {
                    Check.due("apart", full.apart(x, y), Math.abs(x - y));
                }
            }
            NameNotes notes = Check.told("tune x 1 1 2 2 3 3;tune y 1 1 2 3 3 3;tune z 1 1 4 2 3 3;tune u 1 1 4 4 3 3;"
                    + "tune v 2 2 3 3;tune w 9 9 1 1 2 2 3 3;tune k 3 3 1 1 2 2;tune l 9 1 9 1 9 1 9 1 9 1 9 1 9 1 9 1 9 1;"
                    + "tune m 8 1 8 1 8 1 8 1 8 1 8 1 8 1 8 1 8 1;");
            int[] due = {0, 1, 1, 1, 1, 1, 2, 9, 9};
            for (int y = 0; y < 9; y++) {
                Check.due("apart(0, " + y + ")", notes.apart(0, y), due[y]);
                Check.due("apart(" + y + ", 0)", notes.apart(y, 0), due[y]);
            }
            Check.due("nine of nine", notes.apart(7, 8), 9);
        });
        Bound.promise(42, "NONE: no such ones.", () -> {
            NameNotes full = Check.told(FULL);
            for (int wrong : Check.outside(9)) {
                Check.due("tune x " + wrong, full.apart(wrong, 0), -1);
                Check.due("tune y " + wrong, full.apart(0, wrong), -1);
            }
            Check.due("a fourth tune", Check.told(SMALL).apart(3, 0), -1);
            Check.due("a fourth tune", Check.told(SMALL).apart(0, 3), -1);
        });
    }

    private static void nearest() {
        Bound.promise(43, "The other TUNE that CLUE c leaves (NONE: all) that is least APART from TUNE x (of like ones the first);", () -> {
            NameNotes full = Check.told(FULL);
            for (int x = 0; x < 9; x++) {
                Check.due("of all", full.nearest(x, -1), x == 0 ? 1 : x - 1);
                Check.due("of the first clue", full.nearest(x, 0), x == 0 ? 1 : x - 1);
                if (x > 0) {
                    Check.due("of one that is not itself", full.nearest(x, 1), 0);
                }
            }
            Check.due("of the first and the last one", full.nearest(4, 3), 0);
            Check.due("of the first and the last one", full.nearest(5, 3), 8);
            Check.due("of the first and the last one", full.nearest(0, 3), 8);
            NameNotes twins = Check.told("tune x 1 1;tune y 5 2;tune z 5 2;");
            Check.due("itself is no other one", twins.nearest(2, -1), 1);
        });
        Bound.promise(43, "NONE: none is left, no such ones.", () -> {
            NameNotes full = Check.told(FULL);
            Check.due("none is left", full.nearest(0, 1), -1);
            Check.due("none is left", full.nearest(8, 2), -1);
            Check.due("none is left", Check.told("tune x 5 2;").nearest(0, -1), -1);
            for (int wrong : Check.outside(9)) {
                Check.due("tune " + wrong, full.nearest(wrong, -1), -1);
            }
            for (int wrong : Check.outsideAll(6)) {
                Check.due("clue " + wrong, full.nearest(0, wrong), -1);
            }
        });
    }

    private static void rank() {
        Bound.promise(44, "The k-th TUNE (0: the first) by what tune() tells (what 0 to 3), rising, of like ones by number;", () -> {
            NameNotes notes = Check.told("tune x 5 2 9 2;tune y 24 1;tune z 0 9;tune u 5 1 9 3;");
            int[][] due = {{1, 2, 0, 3}, {2, 0, 3, 1}, {2, 0, 3, 1}, {1, 0, 3, 2}};
            for (int what = 0; what < 4; what++) {
                for (int k = 0; k < 4; k++) {
                    Check.due("rank(" + k + ", " + what + ")", notes.rank(k, what), due[what][k]);
                }
            }
            for (int k = 0; k < 9; k++) {
                Check.due("like ones", Check.told(FULL).rank(k, 1), k);
                Check.due("rising", Check.told(FULL).rank(k, 3), k);
            }
        });
        Bound.promise(44, "NONE: no such ones.", () -> {
            NameNotes full = Check.told(FULL);
            for (int wrong : Check.outside(9)) {
                Check.due("k " + wrong, full.rank(wrong, 0), -1);
            }
            for (int wrong : Check.outside(4)) {
                Check.due("what " + wrong, full.rank(0, wrong), -1);
            }
            Check.due("a fourth tune", Check.told(SMALL).rank(3, 0), -1);
            Check.due("a new object", new NameNotes().rank(0, 0), -1);
        });
    }

    private static void commonest() {
        Bound.promise(45, "The PITCH that most notes of all TUNES have (of like ones the least);", () -> {
            Check.due("one alone", Check.told("tune x 24 1;").commonest(), 24);
            Check.due("the least there is", Check.told("tune x 24 1 0 1;").commonest(), 0);
            Check.due("of like ones", Check.told("tune x 9 1 3 1;tune y 3 1 9 1 1 1;").commonest(), 3);
            Check.due("most", Check.told("tune x 9 1 3 1;tune y 3 1 9 1 9 9;").commonest(), 9);
            Check.due("of all tunes", Check.told("tune x 9 1;tune y 3 1;tune z 9 1;").commonest(), 9);
            Check.due("by notes, not by lengths", Check.told("tune x 9 9 3 1 3 1;").commonest(), 3);
            Check.due("45 notes", Check.told(FULL).commonest(), 5);
        });
        Bound.promise(45, "NONE: no TUNES.", () -> {
            Check.due("a new object", new NameNotes().commonest(), -1);
            Check.due("persons alone", Check.told("person a;").commonest(), -1);
            NameNotes notes = Check.told(FULL);
            Check.studio(notes, "");
            Check.due("none any more", notes.commonest(), -1);
        });
    }

    private static void cover() {
        Bound.promise(46, "The fewest CLUES that leave all TUNES together, as bits (of like ones the least);", () -> {
            String three = "tune x 5 2;tune y 5 2;tune z 5 2;";
            Check.due("one of six", Check.told(FULL).cover(), 1);
            Check.due("no tunes", new NameNotes().cover(), 0);
            Check.due("the last one alone", Check.told(three + "clue a x;clue b y;clue c z;clue d z y x;").cover(), 8);
            Check.due("of like ones", Check.told(three + "clue a x;clue b y z;clue c x y;clue d z;").cover(), 3);
            Check.due("fewer ahead of less", Check.told(three + "clue a x;clue b y;clue c z;clue d y z;").cover(), 9);
            String nine = "tune r 1 1;tune s 1 1;tune t 1 1;tune u 1 1;tune v 1 1;tune w 1 1;tune x 1 1;tune y 1 1;tune z 1 1;";
            Check.due("all six", Check.told(nine + "clue a r;clue b s;clue c t;clue d u;clue e v;clue f w x y z;").cover(), 63);
        });
        Bound.promise(46, "NONE: all together do not.", () -> {
            Check.due("one is left by none", Check.told("tune x 5 2;tune y 5 2;clue a x;clue b x;").cover(), -1);
            Check.due("no clues", Check.told("tune x 5 2;").cover(), -1);
        });
    }
}
