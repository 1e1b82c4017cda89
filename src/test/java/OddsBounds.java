/** Promises 15 to 31: by what odds a tune is named, what is best to bid, what to learn. */
final class OddsBounds {
    private static final String SMALL = TestStudios.SMALL;
    private static final String FULL = TestStudios.FULL;
    /** One tune; a knows nothing of it, b by 4 of 9, e for sure. */
    private static final String ONE = "tune x 5 2;clue c x;person a;person b;person e;knows b x 4;knows e x 9;";

    /** Behind which bid it is NAME IT in the fullest studio, if the first two persons know all for sure. */
    private static final int[] LOW = {5, 1, 1, 1, 8, 2};

    private OddsBounds() {
    }

    /** A call of two persons, a bid and a clue. */
    private interface Bid {
        long of(int p, int q, int n, int c);
    }

    static void run() {
        named();
        odds();
        needs();
        held();
        among();
        best();
        reply();
        fair();
        low();
        closest();
        play();
        ablest();
        hardest();
        learn();
    }

    private static void named() {
        Bound.promise(15, "Odds that PERSON p NAMES TUNE x right by n notes behind CLUE c.", () -> {
            NameNotes full = Check.told(FULL);
            for (int n = 1; n <= 9; n++) {
                int by = n;
                for (int x = 0; x < 9; x++) {
                    int tune = x;
                    int alike = x + 1 < n ? 1 : 10 - n;
                    Check.fraction("one who knows all", 1, alike, w -> full.named(0, tune, by, 0, w));
                    Check.fraction("one who knows none", 0, 1, w -> full.named(1, tune, by, 0, w));
                }
                Check.fraction("the last one", 1, 1, w -> full.named(4, 8, by, 0, w));
                Check.fraction("one left alone", 5, 9, w -> full.named(2, 0, by, 1, w));
            }
            // 5/9 * (4/9 + 5/9 * 1/2)
            Check.fraction("one of two", 65, 162, w -> full.named(2, 7, 8, 4, w));
            Check.fraction("one of two, apart by nine notes", 5, 9, w -> full.named(2, 7, 9, 4, w));
        });
        Bound.promise(15, "NoSuchElementException: no such ones, it does not leave it.", () -> {
            NameNotes full = Check.told(FULL);
            for (int wrong : Check.outside(5)) {
                Check.noFraction("person " + wrong, w -> full.named(wrong, 0, 1, 0, w));
            }
            for (int wrong : Check.outside(9)) {
                Check.noFraction("tune " + wrong, w -> full.named(0, wrong, 1, 0, w));
            }
            for (int wrong : Check.outside(10)) {
                Check.noFraction("notes " + wrong, w -> full.named(0, 0, wrong, 0, w));
            }
            for (int wrong : Check.outside(6)) {
                Check.noFraction("clue " + wrong, w -> full.named(0, 0, 1, wrong, w));
            }
            for (int wrong : Check.outside(2)) {
                Check.throwsNoSuch("what " + wrong, () -> full.named(0, 0, 1, 0, wrong));
            }
            Check.noFraction("no notes", w -> full.named(0, 0, 0, 0, w));
            Check.noFraction("not left", w -> full.named(0, 1, 1, 1, w));
            Check.noFraction("a fourth tune", w -> Check.told(SMALL).named(0, 3, 1, 1, w));
            Check.noFraction("a new object", w -> new NameNotes().named(0, 0, 1, 0, w));
        });
    }

    private static void odds() {
        Bound.promise(16, "ODDS of PERSON p by n notes behind CLUE c.", () -> {
            NameNotes full = Check.told(FULL);
            for (int n = 1; n <= 9; n++) {
                int by = n;
                Ratio.of(n, 9).due("one who knows all", full.odds(0, by, 0, 0), full.odds(0, by, 0, 1));
                Check.fraction("one who knows none", 0, 1, w -> full.odds(1, by, 0, w));
                Check.fraction("one who knows one", 1, 9, w -> full.odds(4, by, 0, w));
                Ratio none = Ratio.ONE;
                for (int x = n; x <= 9; x++) {
                    none = none.times(Ratio.of(4, 9));
                }
                Ratio due = Ratio.of(5 * (n - 1), 81).plus(none.rest().times(Ratio.of(1, 9)));
                due.due("one who knows each by 5 of 9", full.odds(2, by, 0, 0), full.odds(2, by, 0, 1));
            }
            Check.fraction("one left alone", 5, 9, w -> full.odds(2, 1, 1, w));
        });
        Bound.promise(16, "NoSuchElementException: no such ones.", () -> {
            NameNotes full = Check.told(FULL);
            for (int wrong : Check.outside(5)) {
                Check.noFraction("person " + wrong, w -> full.odds(wrong, 1, 0, w));
            }
            for (int wrong : Check.outside(10)) {
                Check.noFraction("notes " + wrong, w -> full.odds(0, wrong, 0, w));
            }
            for (int wrong : Check.outside(6)) {
                Check.noFraction("clue " + wrong, w -> full.odds(0, 1, wrong, w));
            }
            for (int wrong : Check.outside(2)) {
                Check.throwsNoSuch("what " + wrong, () -> full.odds(0, 1, 0, wrong));
            }
            Check.noFraction("no notes", w -> full.odds(0, 0, 0, w));
            Check.noFraction("a third person", w -> Check.told(SMALL).odds(2, 1, 0, w));
        });
    }

    private static void needs() {
        Bound.promise(17, "The fewest notes by which the ODDS of PERSON p behind CLUE c are k of 9 or more;", () -> {
            NameNotes full = Check.told(FULL);
            for (int k = 1; k <= 9; k++) {
                Check.due("just " + k + " of 9", full.needs(0, k, 0), k);
            }
            Check.due("nothing", full.needs(0, 0, 0), 1);
            Check.due("nothing, knowing nothing", full.needs(1, 0, 0), 1);
            Check.due("5 of 9 by one tune", full.needs(2, 5, 1), 1);
        });
        Bound.promise(17, "NONE: none are, no such ones (k 0 to 9).", () -> {
            NameNotes full = Check.told(FULL);
            Check.due("none are", full.needs(2, 6, 1), -1);
            Check.due("none are", full.needs(1, 1, 0), -1);
            for (int wrong : Check.outside(5)) {
                Check.due("person " + wrong, full.needs(wrong, 0, 0), -1);
            }
            for (int wrong : Check.outside(10)) {
                Check.due("k " + wrong, full.needs(0, wrong, 0), -1);
            }
            for (int wrong : Check.outside(6)) {
                Check.due("clue " + wrong, full.needs(0, 0, wrong), -1);
            }
        });
    }

    private static void held() {
        Bound.promise(23, "Odds that PERSON p knows TUNE x that a CLUE c leaves, if she was wrong (right 0) or right (1) by n"
                + " notes of it.", () -> {
            NameNotes full = Check.told(FULL);
            for (int n = 1; n <= 9; n++) {
                int by = n;
                Check.fraction("she was right", 1, 1, w -> full.held(2, 8, by, 0, 1, w));
                Check.fraction("wrong of one alone", 0, 1, w -> full.held(2, 0, by, 1, 0, w));
                Check.fraction("wrong of one not known", 0, 1, w -> full.held(1, 8, by, 0, 0, w));
            }
            Check.fraction("wrong of one known for sure", 1, 1, w -> full.held(0, 8, 1, 0, 0, w));
            NameNotes two = Check.told("tune x 5 2;tune y 5 2;clue c x y;person a;knows a x 6;knows a y 3;");
            // She is right by 5 and by 2 of 9.
            Check.fraction("wrong of the one", 1, 4, w -> two.held(0, 0, 1, 0, 0, w));
            Check.fraction("wrong of the other one", 1, 7, w -> two.held(0, 1, 1, 0, 0, w));
            // She is right by 65 of 162, and knows it by 90 of 162.
            Check.fraction("wrong of one of two", 25, 97, w -> full.held(2, 8, 1, 4, 0, w));
        });
        Bound.promise(23, "NoSuchElementException: no such ones, it does not leave it, or it can't be.", () -> {
            NameNotes full = Check.told(FULL);
            Check.noFraction("never wrong", w -> full.held(0, 8, 9, 0, 0, w));
            Check.noFraction("never right", w -> full.held(1, 8, 9, 0, 1, w));
            Check.noFraction("not left", w -> full.held(2, 1, 1, 1, 0, w));
            Check.noFraction("not left", w -> full.held(2, 1, 1, 1, 1, w));
            for (int wrong : Check.outside(5)) {
                Check.noFraction("person " + wrong, w -> full.held(wrong, 0, 1, 0, 0, w));
            }
            for (int wrong : Check.outside(9)) {
                Check.noFraction("tune " + wrong, w -> full.held(2, wrong, 1, 0, 0, w));
            }
            for (int wrong : Check.outside(10)) {
                Check.noFraction("notes " + wrong, w -> full.held(2, 0, wrong, 0, 0, w));
            }
            for (int wrong : Check.outside(6)) {
                Check.noFraction("clue " + wrong, w -> full.held(2, 0, 1, wrong, 0, w));
            }
            for (int wrong : Check.outside(2)) {
                Check.noFraction("right " + wrong, w -> full.held(2, 0, 1, 0, wrong, w));
                Check.throwsNoSuch("what " + wrong, () -> full.held(2, 0, 1, 0, 0, wrong));
            }
            Check.noFraction("no notes", w -> full.held(2, 0, 0, 0, 0, w));
        });
    }

    private static void among() {
        Bound.promise(24, "ODDS of PERSON p by n notes, if some TUNES (bits, one at least) were all that a CLUE leaves.", () -> {
            NameNotes full = Check.told(FULL);
            Check.fraction("all", 1, 9, w -> full.among(0, 1, 511, w));
            Check.fraction("all by nine notes", 1, 1, w -> full.among(0, 9, 511, w));
            for (int x = 0; x < 9; x++) {
                int one = 1 << x;
                Check.fraction("one alone", 5, 9, w -> full.among(2, 1, one, w));
            }
            Check.fraction("the two last ones", 1, 2, w -> full.among(0, 8, 384, w));
            Check.fraction("not of the clues", 1, 2, w -> full.among(4, 9, 258, w));
        });
        Bound.promise(24, "NoSuchElementException: no such ones.", () -> {
            NameNotes full = Check.told(FULL);
            NameNotes small = Check.told(SMALL);
            for (int wrong : new int[] {0, -1, -512, 512, 513, 1023, Integer.MAX_VALUE, Integer.MIN_VALUE}) {
                Check.noFraction("tunes " + wrong, w -> full.among(0, 1, wrong, w));
            }
            Check.noFraction("a fourth tune", w -> small.among(0, 1, 8, w));
            Check.noFraction("a fourth tune, too", w -> small.among(0, 1, 9, w));
            for (int wrong : Check.outside(5)) {
                Check.noFraction("person " + wrong, w -> full.among(wrong, 1, 1, w));
            }
            for (int wrong : Check.outside(10)) {
                Check.noFraction("notes " + wrong, w -> full.among(0, wrong, 1, w));
            }
            Check.noFraction("no notes", w -> full.among(0, 0, 1, w));
            for (int wrong : Check.outside(2)) {
                Check.throwsNoSuch("what " + wrong, () -> full.among(0, 1, 1, wrong));
            }
            Check.noFraction("a new object", w -> new NameNotes().among(0, 1, 1, w));
        });
    }

    /** The fullest studio with the second person knowing all, too. */
    private static NameNotes even() {
        NameNotes notes = Check.told(FULL);
        notes.copies(1, 0);
        return notes;
    }

    /** Persons, bids and clues that there are not. */
    private static void none(Bid call, long none) {
        for (int wrong : Check.outside(5)) {
            Check.due("person p " + wrong, call.of(wrong, 0, 0, 0), none);
            Check.due("person q " + wrong, call.of(0, wrong, 0, 0), none);
        }
        for (int wrong : Check.outside(10)) {
            Check.due("bid " + wrong, call.of(0, 1, wrong, 0), none);
        }
        for (int wrong : Check.outside(6)) {
            Check.due("clue " + wrong, call.of(0, 1, 0, wrong), none);
        }
        Check.due("p alone", call.of(0, 0, 0, 0), none);
        Check.due("p alone", call.of(4, 4, 1, 5), none);
    }

    private static void best() {
        Bound.promise(18, "What PERSON p does BEST, PERSON q having bid n (1 to 9; 0: no bid yet) behind CLUE c: 0 NAME IT, or her"
                + " bid.", () -> {
            NameNotes notes = even();
            Check.due("no bid yet", notes.best(0, 1, 0, 0), 5);
            Check.due("behind 9", notes.best(0, 1, 9, 0), 5);
            Check.due("behind 6", notes.best(0, 1, 6, 0), 5);
            Check.due("behind 5", notes.best(0, 1, 5, 0), 0);
            Check.due("behind 1", notes.best(0, 1, 1, 0), 0);
            Check.due("the last persons and clue", notes.best(4, 3, 0, 5), 9);
            Check.due("behind the last clue", notes.best(0, 1, 5, 5), 4);
            Check.due("behind the last clue", notes.best(0, 1, 2, 5), 0);
            Check.due("p's own doing", Check.told(SMALL).best(0, 1, 4, 0), 0);
            Check.due("p's own doing", Check.told(SMALL).best(1, 0, 4, 0), 3);
        });
        Bound.promise(18, "NONE: no such ones, p alone.", () -> {
            NameNotes full = Check.told(FULL);
            none(full::best, -1);
            Check.due("a third person", Check.told(SMALL).best(0, 2, 0, 0), -1);
        });
        Bound.promise(19, "By what odds the point is hers then.", () -> {
            NameNotes notes = even();
            Check.fraction("no bid yet", 5, 9, w -> notes.worth(0, 1, 0, 0, w));
            Check.fraction("behind 9", 5, 9, w -> notes.worth(0, 1, 9, 0, w));
            Check.fraction("behind 1", 8, 9, w -> notes.worth(0, 1, 1, 0, w));
            Check.fraction("behind the last clue", 1, 2, w -> notes.worth(0, 1, 9, 5, w));
            Check.fraction("behind the second clue", 1, 1, w -> notes.worth(0, 1, 0, 1, w));
            Check.fraction("surely", 1, 1, w -> notes.worth(0, 3, 0, 0, w));
            Check.fraction("never", 0, 1, w -> notes.worth(3, 0, 0, 0, w));
        });
        Bound.promise(19, "NoSuchElementException: as best() is NONE.", () -> {
            NameNotes full = Check.told(FULL);
            none((p, q, n, c) -> Check.tried(() -> full.worth(p, q, n, c, 0)), Check.NO_SUCH);
            none((p, q, n, c) -> Check.tried(() -> full.worth(p, q, n, c, 1)), Check.NO_SUCH);
            for (int wrong : Check.outside(2)) {
                Check.throwsNoSuch("what " + wrong, () -> full.worth(0, 1, 0, 0, wrong));
            }
        });
    }

    private static void reply() {
        Bound.promise(20, "What PERSON p does best AGAINST the rule of PERSON q, likewise.", () -> {
            NameNotes one = Check.told(ONE + "dare b 4;");
            Check.due("no bid yet", one.reply(0, 1, 0, 0), 9);
            Check.due("behind 9, as any bid but 2 and 1", one.reply(0, 1, 9, 0), 0);
            Check.due("e bids 1 behind 2", one.reply(2, 1, 2, 0), 1);
            Check.due("e must name behind 1", one.reply(2, 1, 1, 0), 0);
            NameNotes even = even();
            even.dares(1, 4);
            // q bids down to 4; then p says NAME IT by 5 of 9, or bids 3 and names it by 3.
            Check.due("she bids down to 4 of 9", even.reply(0, 1, 0, 0), 9);
            Check.fraction("she bids down to 4 of 9", 5, 9, w -> even.gains(0, 1, 0, 0, w));
            even.dares(1, 5);
            Check.due("she says NAME IT below 5", even.reply(0, 1, 6, 0), 5);
            Check.due("behind 6 she would bid just 5", even.reply(0, 1, 7, 0), 5);
            Check.due("5 and 4 are like, but for the bid", even.reply(0, 1, 5, 0), 0);
            Check.due("she bids down to 6 of 9", even.reply(0, 1, 0, 0), 9);
            Check.due("all is sure behind the second clue", even.reply(0, 1, 5, 1), 4);
            Check.due("she bids 1 at last", even.reply(0, 1, 2, 1), 1);
            Check.fraction("all is sure behind the second clue", 1, 1, w -> even.gains(0, 1, 5, 1, w));
            even.dares(1, 9);
            Check.due("she says NAME IT below 9", even.reply(0, 1, 0, 0), 9);
            Check.fraction("she says NAME IT below 9", 1, 1, w -> even.gains(0, 1, 0, 0, w));
        });
        Bound.promise(20, "NONE, likewise.", () -> {
            NameNotes full = Check.told(FULL);
            none(full::reply, -1);
        });
        Bound.promise(21, "By what odds the point is hers then.", () -> {
            NameNotes one = Check.told(ONE + "dare b 4;");
            Check.fraction("no bid yet", 5, 9, w -> one.gains(0, 1, 0, 0, w));
            Check.fraction("behind 1", 5, 9, w -> one.gains(2, 1, 1, 0, w));
            Check.fraction("behind 2", 1, 1, w -> one.gains(2, 1, 2, 0, w));
            Check.fraction("never", 0, 1, w -> one.gains(0, 2, 9, 0, w));
        });
        Bound.promise(21, "NoSuchElementException, likewise.", () -> {
            NameNotes full = Check.told(FULL);
            none((p, q, n, c) -> Check.tried(() -> full.gains(p, q, n, c, 0)), Check.NO_SUCH);
            none((p, q, n, c) -> Check.tried(() -> full.gains(p, q, n, c, 1)), Check.NO_SUCH);
            for (int wrong : Check.outside(2)) {
                Check.throwsNoSuch("what " + wrong, () -> full.gains(0, 1, 0, 0, wrong));
            }
        });
    }

    /** One tune that a and b know by so many of 9; the first bid is 1, so that who speaks first must name it. */
    private static NameNotes byNinths(int a, int b) {
        return Check.told("tune x 5 2;clue c x;person a;person b;knows a x " + a + ";knows b x " + b + ";from 1;");
    }

    private static void fair() {
        Bound.promise(22, "1: behind CLUE c the point is rather p's, whoever speaks first (BEST), -1: rather q's, 0: it is as who"
                + " speaks first, or even.", () -> {
            for (int a = 0; a <= 9; a++) {
                for (int b = 0; b <= 9; b++) {
                    // a's, if a speaks first, by a of 9, if b does, by 9 - b of 9
                    int due = a >= 5 && b <= 4 ? 1 : a <= 4 && b >= 5 ? -1 : 0;
                    Check.due("by " + a + " and " + b, byNinths(a, b).fair(0, 1, 0), due);
                    Check.due("the other way round", byNinths(a, b).fair(1, 0, 0), -due);
                }
            }
            String half = "tune x 5 2;tune y 6 2;clue c x y;person a;person b;knows a x 9;from 1;";
            Check.due("even, if a speaks first, else a's", Check.told(half).fair(0, 1, 0), 0);
            Check.due("even, if b speaks last, else b's", Check.told(half).fair(1, 0, 0), 0);
            Check.due("even, whoever does", Check.told(half + "knows b y 9;").fair(0, 1, 0), 0);
            NameNotes all = Check.told(half + "knows a y 9;knows b x 9;");
            Check.due("a's, if a speaks first, else even", all.fair(0, 1, 0), 0);
            Check.due("b's, if b speaks last, else even", all.fair(1, 0, 0), 0);
            NameNotes none = Check.told(half + "knows b x 9;knows b y 9;");
            Check.due("even, if a speaks first, else b's", none.fair(0, 1, 0), 0);
            none.teach(0, 0, 0);
            none.teach(1, 1, 0);
            Check.due("b's, if a speaks first, else even", none.fair(0, 1, 0), 0);
            NameNotes full = Check.told(FULL);
            Check.due("surely p's", full.fair(0, 1, 0), 1);
            Check.due("even, whoever speaks first, behind the fourth clue", even().fair(0, 1, 3), 0);
            Check.due("the last clue is not the first", full.fair(4, 1, 5), 0);
            Check.due("where one knows all", full.fair(4, 1, 2), 1);
            Check.due("surely q's", full.fair(1, 0, 0), -1);
            Check.due("nobody's who speaks first", full.fair(1, 3, 0), 0);
        });
        Bound.promise(22, "NONE: no such ones, p alone.", () -> {
            NameNotes full = Check.told(FULL);
            none((p, q, n, c) -> n == 0 || n == 1 ? full.fair(p, q, c) : -1, -1);
            Check.due("a third person", Check.told(SMALL).fair(0, 2, 0), -1);
        });
    }

    private static void low() {
        Bound.promise(25, "The bid behind which it is NAME IT, if PERSON p speaks first behind CLUE c, both doing BEST;", () -> {
            NameNotes even = even();
            for (int c = 0; c < 6; c++) {
                Check.due("behind clue " + c, even.low(0, 1, c), LOW[c]);
                Check.due("behind clue " + c, even.low(1, 0, c), LOW[c]);
            }
            Check.due("behind 'from'", Check.told(FULL).low(0, 1, 0), 9);
            Check.due("behind 1, which is 'from'", byNinths(3, 3).low(0, 1, 0), 1);
            NameNotes small = Check.told(SMALL);
            Check.due("behind the second bid", small.low(0, 1, 0), 3);
            Check.due("behind the first bid", small.low(1, 0, 0), 4);
        });
        Bound.promise(25, "NONE: no such ones, p alone.", () -> {
            NameNotes full = Check.told(FULL);
            none((p, q, n, c) -> n == 0 || n == 1 ? full.low(p, q, c) : -1, -1);
        });
        Bound.promise(26, "The CLUE with the least such bid (of like ones the first);", () -> {
            Check.due("of like ones", Check.told("tune x 5 2;clue c x;clue d x;person a;person b;").lowest(0, 1), 0);
            Check.due("of six", even().lowest(0, 1), 1);
            NameNotes last = Check.told("tune x 5 2;tune y 6 2;clue c x;clue d y;person a;person b;knows a y 9;knows b y 9;");
            Check.due("9 where nothing is known, 1 where all is", last.lowest(0, 1), 1);
        });
        Bound.promise(26, "NONE: none, no such ones, p alone.", () -> {
            NameNotes full = Check.told(FULL);
            Check.due("none", Check.told("tune x 5 2;person a;person b;").lowest(0, 1), -1);
            none((p, q, n, c) -> n == 0 && c == 0 || p == q ? full.lowest(p, q) : -1, -1);
        });
    }

    private static void closest() {
        Bound.promise(27, "The CLUE behind which the point is most evenly p's and q's, p speaking first, both doing BEST (of like"
                + " ones the first);", () -> {
            String text = "tune u 5 2;tune v 6 2;tune w 7 2;tune x 8 2;tune y 9 2;clue cu u;clue cv v;clue cw w;clue cx x;clue cy y;"
                    + "person a;person b;from 1;knows a u 9;knows a v 0;knows a w 6;knows a x 4;knows a y 5;";
            Check.due("q's odds count", Check.told(FULL).closest(0, 1), 0);
            // who speaks first has the point by her odds
            Check.due("4 and 5 of 9 are like", Check.told(text).closest(0, 1), 3);
            Check.due("all are lost for b", Check.told(text).closest(1, 0), 0);
            NameNotes taught = Check.told(text);
            taught.teach(0, 3, 3);
            Check.due("3 of 9 is less even than 5", taught.closest(0, 1), 4);
            Check.due("half of all, the first one", even().closest(0, 1), 3);
            taught.teach(0, 4, 9);
            Check.due("6 of 9 and 3 of 9 are like", taught.closest(0, 1), 2);
        });
        Bound.promise(27, "NONE likewise.", () -> {
            NameNotes full = Check.told(FULL);
            Check.due("none", Check.told("tune x 5 2;person a;person b;").closest(0, 1), -1);
            none((p, q, n, c) -> n == 0 && c == 0 || p == q ? full.closest(p, q) : -1, -1);
        });
    }

    private static void play() {
        Bound.promise(28, "The EVENING, if PERSON p speaks first behind CLUE c, both doing BEST, as a text: as it is told, one blank"
                + " (32) between, ; behind each LINE: how many bytes;", () -> {
            NameNotes even = even();
            Check.due("play", even.play(0, 1, 0), 21);
            Check.due("text", Check.text(even), "clue ca;pa 5;pb name;");
            Check.due("all bids", even.play(1, 0, 3), 61);
            Check.due("text", Check.text(even), "clue cd;pb 9;pa 8;pb 7;pa 6;pb 5;pa 4;pb 3;pa 2;pb 1;pa name;");
            Check.due("p says NAME IT", even.play(1, 0, 4), 26);
            Check.due("text", Check.text(even), "clue ce;pb 9;pa 8;pb name;");
            NameNotes small = Check.told(SMALL);
            Check.due("play", small.play(0, 1, 0), 22);
            Check.due("text", Check.text(small), "clue c;a 4;b 3;a name;");
            Check.due("play", small.play(1, 0, 0), 18);
            Check.due("text", Check.text(small), "clue c;b 4;a name;");
            NameNotes longest = Check.told("tune x 5 2;tune y 5 2 7 1;clue abcdefg x y;person hijklmn;person opqrstu;"
                    + "knows hijklmn x 9;knows hijklmn y 9;knows opqrstu x 9;knows opqrstu y 9;");
            Check.due("the longest play", longest.play(0, 1, 0), 116);
            Check.due("its end", Check.text(longest).substring(93), "hijklmn 1;opqrstu name;");
            NameNotes names = Check.told("tune x 5 2;clue abcdefg x;person hijklmn;person z;from 1;");
            Check.due("long names", names.play(0, 1, 0), 30);
            Check.due("text", Check.text(names), "clue abcdefg;hijklmn 1;z name;");
            Check.due("long names", names.play(1, 0, 0), 30);
            Check.due("text", Check.text(names), "clue abcdefg;z 1;hijklmn name;");
        });
        Bound.promise(28, "NONE: no such ones, p alone.", () -> {
            NameNotes full = Check.told(FULL);
            full.write(0);
            none((p, q, n, c) -> n == 0 || n == 1 ? full.play(p, q, c) : -1, -1);
            Check.due("the text made last stays", Check.text(full), "5 2");
        });
    }

    private static void ablest() {
        Bound.promise(29, "The PERSON whose ODDS by n notes behind CLUE c are greatest (of like ones the first);", () -> {
            NameNotes full = Check.told(FULL);
            Check.due("the first one", full.ablest(9, 0), 0);
            full.copies(1, 0);
            Check.due("of like ones", full.ablest(9, 0), 0);
            full.copies(0, 3);
            Check.due("the second one", full.ablest(1, 0), 1);
            full.copies(1, 3);
            full.copies(2, 3);
            Check.due("the last one", full.ablest(9, 0), 4);
            full.copies(4, 3);
            Check.due("all know nothing", full.ablest(9, 0), 0);
            NameNotes two = Check.told("tune x 5 2;tune y 5 2 7 1;clue c x y;clue d y;person a;person b;knows a x 5;knows a y 5;"
                    + "knows b y 9;");
            Check.due("65 of 162 is less than half", two.ablest(1, 0), 1);
            Check.due("5 of 9 is more than half", two.ablest(2, 0), 0);
            Check.due("behind the other clue", two.ablest(2, 1), 1);
        });
        Bound.promise(29, "NONE: none, no such ones.", () -> {
            Check.due("none", Check.told("tune x 5 2;clue c x;").ablest(1, 0), -1);
            NameNotes full = Check.told(FULL);
            for (int wrong : Check.outside(10)) {
                Check.due("notes " + wrong, full.ablest(wrong, 0), -1);
            }
            Check.due("no notes", full.ablest(0, 0), -1);
            for (int wrong : Check.outside(6)) {
                Check.due("clue " + wrong, full.ablest(1, wrong), -1);
            }
        });
    }

    private static void hardest() {
        Bound.promise(30, "The TUNE that CLUE c leaves and that enough() tells most notes of (one that none are enough of ahead of"
                + " all; of like ones the first), how 0 to 3;", () -> {
            NameNotes full = Check.told(FULL);
            for (int how = 0; how < 4; how++) {
                Check.due("of all", full.hardest(how, 0), 7);
                Check.due("of one", full.hardest(how, 2), 8);
                Check.due("of like ones", full.hardest(how, 4), 7);
                Check.due("of the four first ones", full.hardest(how, 5), 2);
            }
            NameNotes twins = Check.told("tune x 5 2 7 1 8 1;tune y 5 2 7 1 9 1;tune z 6 2;tune u 6 2;clue c x y z u;clue d y x z;");
            Check.due("none are enough", twins.hardest(0, 0), 2);
            Check.due("none are enough in length", twins.hardest(2, 0), 0);
            String eight = " 3 3".repeat(8);
            NameNotes nine = Check.told("tune x" + eight + " 3 3;tune y" + eight + " 3 4;tune z 1 1;tune u 1 1;clue c u z y x;");
            Check.due("none are enough, ahead of nine", nine.hardest(0, 0), 2);
            Check.due("most notes", twins.hardest(0, 1), 0);
        });
        Bound.promise(30, "NONE: no such ones.", () -> {
            NameNotes full = Check.told(FULL);
            for (int wrong : Check.outside(4)) {
                Check.due("how " + wrong, full.hardest(wrong, 0), -1);
            }
            for (int wrong : Check.outside(6)) {
                Check.due("clue " + wrong, full.hardest(0, wrong), -1);
            }
        });
    }

    private static void learn() {
        Bound.promise(31, "LEARN, k (0 to 9) at most: TUNES, as bits;", () -> {
            NameNotes full = Check.told(FULL);
            Check.due("none at most", full.learn(1, 9, 0, 0), 0);
            Check.due("one at most", full.learn(1, 9, 0, 1), 1);
            Check.due("nine at most", full.learn(1, 9, 0, 9), 511);
            Check.due("more than there are", full.learn(1, 9, 1, 9), 1);
            Check.due("the last person and clue", full.learn(4, 4, 5, 9), 15);
            Check.due("knows as before", full.knows(1, 0), 0);
        });
        Bound.promise(31, "NONE: no such ones.", () -> {
            NameNotes full = Check.told(FULL);
            for (int wrong : Check.outside(5)) {
                Check.due("person " + wrong, full.learn(wrong, 1, 0, 1), -1);
            }
            for (int wrong : Check.outside(10)) {
                Check.due("notes " + wrong, full.learn(0, wrong, 0, 1), -1);
                Check.due("k " + wrong, full.learn(0, 1, 0, wrong), -1);
            }
            Check.due("no notes", full.learn(0, 0, 0, 1), -1);
            for (int wrong : Check.outside(6)) {
                Check.due("clue " + wrong, full.learn(0, 1, wrong, 1), -1);
            }
        });
    }
}
