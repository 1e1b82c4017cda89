/** The second and the third part of the terms: how tunes are like, what is named and bid, what is drawn and said. */
final class RulesBounds {
    /** One tune; a knows nothing of it, b by 4 of 9, e for sure. */
    private static final String ONE = "tune x 5 2;clue c x;person a;person b;person e;knows b x 4;knows e x 9;";
    private static final String TWO = "tune x 5 2;tune y 5 2 7 1;clue c x y;clue d y x;clue k x;person a;person b;";
    private static final String HEARD = "tune x 5 2;clue c x;person a;person b;person e;from 6;";

    private RulesBounds() {
    }

    static void run() {
        likes();
        names();
        rounds();
        best();
        against();
        judged();
        learnt();
        matches();
        draws();
        nights();
        nightNames();
        conds();
        ones();
        said();
        studios();
    }

    private static void terms(String words, Runnable test) {
        Bound.holds("Terms", words, test);
    }

    private static void likes() {
        terms("LIKE by n notes are two TUNES whose first n notes are alike (a note that a TUNE lacks is like one that the"
                + " other lacks, too):", () -> {
            NameNotes notes = Check.told("tune x 5 2 7 1;tune y 5 2 7 1 9 1;tune z 5 2 7 1;tune u 5 2 8 1 9 1;");
            for (int how = 0; how < 4; how++) {
                Check.due("by the first", notes.begins(0, 1, how, -1), 15);
                Check.due("by the last one of both", notes.begins(0, 2, how, -1), how == 2 ? 15 : 7);
                Check.due("by one that one lacks", notes.begins(0, 3, how, -1), 5);
                Check.due("by those that both lack", notes.begins(0, 9, how, -1), 5);
                Check.due("by one that the other lacks", notes.begins(1, 3, how, -1), how == 2 ? 10 : 2);
            }
            NameNotes noughts = Check.told("tune x 5 2;tune y 5 2 0 1;tune z 5 2 0 9 0 1;");
            Check.due("no pitch is not pitch 0", noughts.begins(0, 2, 1, -1), 1);
            Check.due("no pitch is not pitch 0 in steps", noughts.begins(0, 2, 3, -1), 1);
            Check.due("no pitch is not pitch 0", noughts.begins(1, 3, 1, -1), 2);
            NameNotes later = Check.told("tune x 5 2 7 1 9 1;tune y 5 2 7 1;");
            Check.studio(later, "tune x 5 2;tune y 5 2 7 1 9 1;tune z 5 2;");
            Check.due("nothing is left of another studio", later.begins(0, 2, 0, -1), 5);
            Check.due("nothing is left of another studio", later.begins(1, 3, 1, -1), 2);
            Check.due("the first one unlike", Check.told("tune x 5 2 7 1;tune y 6 2 7 1;").begins(0, 2, 0, -1), 1);
        });
        terms("in PITCH and LENGTH (how 0), in PITCH (1), in LENGTH (2), in steps (3: each PITCH less the first one of its"
                + " TUNE).", () -> {
            NameNotes notes = Check.told("tune x 5 2 7 1;tune y 5 3 7 1;tune z 5 2 8 1;tune u 6 9 8 9;tune v 0 1 24 1;"
                    + "tune w 24 1 0 1;");
            int[] due = {1, 3, 5, 11};
            for (int how = 0; how < 4; how++) {
                Check.due("how " + how, notes.begins(0, 2, how, -1), due[how]);
            }
            Check.due("all begin alike by steps", notes.begins(0, 1, 3, -1), 63);
            Check.due("up is not down", notes.begins(4, 2, 3, -1), 16);
        });
    }

    private static void names() {
        terms("NAMED: a PERSON hears the first n notes of a TUNE that a CLUE leaves. Of those that it leaves, that are LIKE"
                + " (how 0), and that she knows (each by its odds, whatever the others) she names one, each as likely:", () -> {
            NameNotes notes = Check.told(TWO + "knows a x 9;knows a y 9;knows b x 6;knows b y 3;");
            Check.fraction("two for sure", 1, 2, w -> notes.named(0, 0, 1, 0, w));
            Check.fraction("unlike by two notes", 1, 1, w -> notes.named(0, 0, 2, 0, w));
            Check.fraction("the other one is not left", 1, 1, w -> notes.named(0, 0, 1, 2, w));
            // 2/3 * (2/3 + 1/3 * 1/2)
            Check.fraction("each by its odds", 5, 9, w -> notes.named(1, 0, 1, 0, w));
            Check.fraction("each by its odds", 2, 9, w -> notes.named(1, 1, 1, 0, w));
            NameNotes lengths = Check.told("tune x 5 2;tune y 5 3;clue c x y;person a;knows a x 9;knows a y 9;");
            Check.fraction("like in pitch alone", 1, 1, w -> lengths.named(0, 0, 1, 0, w));
        });
        terms("right, if it is that one; knows she none, she is wrong.", () -> {
            NameNotes notes = Check.told(TWO + "knows a x 9;knows b x 2;");
            Check.fraction("that one", 1, 1, w -> notes.named(0, 0, 1, 0, w));
            Check.fraction("another one", 0, 1, w -> notes.named(0, 1, 1, 0, w));
            Check.fraction("none", 0, 1, w -> notes.named(0, 1, 9, 0, w));
            Check.fraction("odds of the one", 2, 9, w -> notes.named(1, 0, 1, 0, w));
        });
        terms("ODDS of a PERSON by n notes behind a CLUE: each TUNE that it leaves as likely.", () -> {
            NameNotes notes = Check.told(TWO + "knows a x 9;knows b x 6;knows b y 3;");
            Check.fraction("half", 1, 2, w -> notes.odds(0, 1, 0, w));
            Check.fraction("5/9 and 2/9", 7, 18, w -> notes.odds(1, 1, 0, w));
            Check.fraction("6/9 and 3/9", 1, 2, w -> notes.odds(1, 2, 0, w));
            Check.fraction("one alone", 1, 1, w -> notes.odds(0, 1, 2, w));
            Check.fraction("nothing known", 0, 1, w -> Check.told(TWO).odds(0, 1, 0, w));
        });
    }

    private static void rounds() {
        terms("A ROUND of two PERSONS behind a CLUE: they speak by turns: a bid (lower than the latest one; the first one"
                + " 'from' at most), or NAME IT (behind a bid; behind 1 she must):", () -> {
            for (int from = 1; from <= 9; from++) {
                NameNotes notes = Check.told(ONE + "from " + from + ";");
                Check.due("all bids alike", notes.best(0, 2, 0, 0), from);
                Check.due("she must bid at first", notes.best(2, 0, 0, 0), from);
            }
            NameNotes notes = Check.told(ONE);
            Check.due("behind 1, though the other one is sure", notes.best(0, 2, 1, 0), 0);
            Check.due("behind 1, against a rule", notes.reply(0, 2, 1, 0), 0);
            Check.due("behind 2 she need not", notes.best(2, 1, 2, 0), 1);
            for (int n = 2; n <= 9; n++) {
                Check.due("lower than " + n, notes.reply(2, 1, n, 0), n - 1);
            }
        });
        terms("then the other one names it by as many notes as she bid last: right, the point is hers, wrong, it is that of"
                + " her who said NAME IT.", () -> {
            NameNotes notes = Check.told(ONE);
            Check.fraction("a is wrong", 1, 1, w -> notes.worth(1, 0, 1, 0, w));
            Check.fraction("b is right by 4 of 9", 5, 9, w -> notes.worth(0, 1, 1, 0, w));
            Check.fraction("e is right", 0, 1, w -> notes.worth(0, 2, 1, 0, w));
            NameNotes sure = Check.told(TWO + "knows b x 9;knows b y 9;");
            Check.fraction("by one note", 1, 2, w -> sure.worth(0, 1, 1, 0, w));
            Check.fraction("by two notes", 0, 1, w -> sure.worth(0, 1, 2, 0, w));
        });
    }

    private static void best() {
        terms("BEST: what who speaks does, so that the point is hers by the greatest odds, the other one doing so, too, both"
                + " knowing ODDS alone:", () -> {
            NameNotes notes = Check.told(TestStudios.FULL);
            notes.copies(1, 0);
            // Both name it by n of 9 by n notes: behind 5 and less it is NAME IT, behind more 5 is best.
            for (int n = 1; n <= 9; n++) {
                int by = n;
                Check.due("behind " + n, notes.best(0, 1, n, 0), n <= 5 ? 0 : 5);
                Ratio.of(n <= 5 ? 9 - n : 5, 9).due("worth", notes.worth(0, 1, by, 0, 0), notes.worth(0, 1, by, 0, 1));
            }
            Check.due("at first", notes.best(0, 1, 0, 0), 5);
            Check.fraction("at first", 5, 9, w -> notes.worth(0, 1, 0, 0, w));
        });
        terms("of like ones NAME IT, then the greatest bid.", () -> {
            NameNotes notes = Check.told(TestStudios.FULL);
            notes.copies(1, 0);
            Check.due("behind 5 it is like to bid 4", notes.best(0, 1, 5, 0), 0);
            Check.fraction("behind 5", 4, 9, w -> notes.worth(0, 1, 5, 0, w));
            NameNotes one = Check.told(ONE);
            Check.due("all are lost, behind a bid", one.best(0, 2, 9, 0), 0);
            Check.due("all are lost, against a rule", one.reply(0, 2, 9, 0), 0);
            Check.due("all are lost, at first", one.best(0, 2, 0, 0), 9);
            Check.due("all bids are sure", one.best(2, 0, 0, 0), 9);
            Check.due("all bids are sure, against a rule", one.reply(2, 0, 0, 0), 9);
        });
    }

    private static void against() {
        terms("AGAINST a rule: the other one bids one note fewer (at first: 'from'), if her ODDS by so many are 'dare' of 9"
                + " or more, else she says NAME IT (at first she bids 'from' all the same; behind 1 she says NAME IT).", () -> {
            NameNotes bids = Check.told(ONE + "dare b 4;");
            Check.due("b bids by just 4 of 9", bids.reply(0, 1, 0, 0), 9);
            Check.fraction("b bids by just 4 of 9", 5, 9, w -> bids.gains(0, 1, 0, 0, w));
            Check.due("behind 1 b says NAME IT", bids.reply(0, 1, 2, 0), 0);
            Check.fraction("behind 1 b says NAME IT", 5, 9, w -> bids.gains(0, 1, 2, 0, w));
            NameNotes names = Check.told(ONE + "dare b 5;");
            Check.fraction("b says NAME IT by less than 5 of 9", 0, 1, w -> names.gains(0, 1, 0, 0, w));
            Check.due("all is lost, but she must bid", names.reply(0, 1, 0, 0), 9);
            NameNotes last = Check.told(ONE + "dare b 4;from 2;");
            Check.due("b bids 1 behind 2", last.reply(0, 1, 0, 0), 2);
            Check.fraction("b bids 1 behind 2", 5, 9, w -> last.gains(0, 1, 0, 0, w));
            NameNotes bold = Check.told(ONE + "dare a 0;");
            Check.due("behind 1 a must not bid", bold.reply(2, 0, 2, 0), 0);
            Check.fraction("a, who knows nothing, bids by 0 of 9", 1, 1, w -> bold.gains(1, 0, 0, 0, w));
            NameNotes always = Check.told(ONE + "dare b 0;");
            Check.due("behind 1 b must not bid", always.reply(2, 1, 2, 0), 1);
            Check.fraction("behind 1 b must not bid", 1, 1, w -> always.gains(2, 1, 2, 0, w));
            NameNotes sure = Check.told(ONE + "dare e 9;");
            Check.fraction("e bids by 9 of 9, and behind 1 she says NAME IT", 4, 9, w -> sure.gains(1, 2, 0, 0, w));
            Check.due("b bids 9, so that she bids 1 last", sure.reply(1, 2, 0, 0), 9);
            NameNotes less = Check.told(ONE + "dare e 9;");
            less.teach(2, 0, 8);
            Check.fraction("e says NAME IT by 8 of 9", 4, 9, w -> less.gains(1, 2, 0, 0, w));
            Check.fraction("then a is wrong", 0, 1, w -> less.gains(0, 2, 0, 0, w));
        });
    }

    private static void judge(String text, int line, int why) {
        NameNotes notes = Check.told(HEARD);
        Check.due("evening '" + text + "'", Check.evening(notes, text), line);
        Check.due("why of '" + text + "'", notes.heard(0), why);
    }

    private static void judged() {
        terms("An EVENING is judged LINE by LINE (from the second on): WRONG, the least:", () -> {
            judge("clue c;", -1, 0);
            judge("clue c;a 6;b 5;", -1, 0);
            judge("clue c;a 7;a 7;", 1, 3);
            judge("clue c;a 6;a 7;", 2, 2);
            judge("clue c;a 6;b name;b 9;", 3, 1);
            judge("clue c;a 6;b name;b name;", 3, 1);
        });
        terms("1 it is over;", () -> {
            judge("clue c;a 6;b name;", -1, 0);
            judge("clue c;a 6;b name;a 5;", 3, 1);
            judge("clue c;a 6;b name;a name;", 3, 1);
            judge("clue c;a 6;b name;e 1;", 3, 1);
            judge("clue c;a 1;b name;", -1, 0);
        });
        terms("2 another PERSON is to speak (whoever speaks first, then another one, then these two by turns);", () -> {
            judge("clue c;b 6;", -1, 0);
            judge("clue c;e 6;", -1, 0);
            judge("clue c;e 6;a 5;", -1, 0);
            judge("clue c;a 6;a 5;", 2, 2);
            judge("clue c;a 6;a name;", 2, 2);
            judge("clue c;a 6;e 5;a 4;e 3;a name;", -1, 0);
            judge("clue c;a 6;b 5;e 4;", 3, 2);
            judge("clue c;a 6;b 5;e name;", 3, 2);
            judge("clue c;a 6;b 5;b 4;", 3, 2);
            judge("clue c;a 6;b 5;a 4;a 3;", 4, 2);
            judge("clue c;a 6;b 5;a 4;e 3;", 4, 2);
        });
        terms("3 a bid that is not lower than the latest one, the first one above 'from';", () -> {
            judge("clue c;a 6;b 6;", 2, 3);
            judge("clue c;a 5;b 6;", 2, 3);
            judge("clue c;a 6;b 1;a 1;", 3, 3);
            judge("clue c;a 7;", 1, 3);
            judge("clue c;a 9;", 1, 3);
            judge("clue c;a 1;", -1, 0);
            judge("clue c;a 2;b 1;", -1, 0);
        });
        terms("4 'name' ahead of a bid.", () -> {
            judge("clue c;a name;", 1, 4);
            judge("clue c;a name;a name;", 1, 4);
            judge("clue c;a 6;b name;", -1, 0);
        });
    }

    private static void learnt() {
        terms("LEARN: TUNES of a CLUE, so many at most, that a PERSON is to know for sure so that her ODDS by n notes behind"
                + " it are greatest: of like ones the fewest, then the least set as bits.", () -> {
            NameNotes notes = Check.told(TestStudios.FULL);
            for (int k = 0; k <= 9; k++) {
                Check.due("all unlike", notes.learn(1, 9, 0, k), (1 << k) - 1);
                Check.due("all alike", notes.learn(1, 1, 0, k), k == 0 ? 0 : 1);
                Check.due("two beginnings", notes.learn(1, 2, 0, k), new int[] {0, 1, 3}[Math.min(k, 2)]);
                Check.due("all known", notes.learn(0, 9, 0, k), 0);
                Check.due("of the clue alone", notes.learn(1, 9, 4, k), new int[] {0, 128, 384}[Math.min(k, 2)]);
            }
            // Of two tunes by 3 and 6 of 9 the lesser one is to be learnt.
            NameNotes two = Check.told(TWO + "knows a x 6;knows a y 3;");
            Check.due("what helps most", two.learn(0, 2, 0, 1), 2);
            Check.due("what is known counts all the same", two.learn(0, 1, 0, 1), 1);
        });
    }

    private static void matches() {
        NameNotes notes = new NameNotes();
        terms("MATCH to three points, each ROUND won by k of 9: the odds to win it from a score.", () -> {
            for (int k = 0; k <= 9; k++) {
                int by = k;
                Ratio won = Ratio.of(k, 9);
                won.due("at 2 and 2", notes.match(2, 2, by, 0), notes.match(2, 2, by, 1));
                won.times(won).due("at 1 and 2", notes.match(1, 2, by, 0), notes.match(1, 2, by, 1));
                won.times(won).times(won).due("at 0 and 2", notes.match(0, 2, by, 0), notes.match(0, 2, by, 1));
                Ratio lost = won.rest();
                lost.times(lost).times(lost).rest().due("at 2 and 0", notes.match(2, 0, by, 0), notes.match(2, 0, by, 1));
            }
            Check.fraction("never won", 0, 1, w -> notes.match(2, 0, 0, w));
            Check.fraction("always won", 1, 1, w -> notes.match(0, 2, 9, w));
            Check.fraction("from the start", 17, 81, w -> notes.match(0, 0, 3, w));
        });
        terms("BOLD: ahead of each ROUND one may be so: then it is won by j of 9, and counts two points for whoever wins it.", () -> {
            Check.fraction("two points are enough from 1", 4, 9, w -> notes.bolder(1, 2, 4, 4, w));
            Check.due("from 1", notes.bold(1, 2, 4, 4), 1);
            Check.due("once, now or later", notes.bold(0, 2, 4, 4), 0);
            Check.fraction("once, now or later", 16, 81, w -> notes.bolder(0, 2, 4, 4, w));
            Check.due("the other one would have two, too", notes.bold(2, 0, 4, 4), 0);
            Check.fraction("the other one would have two, too", 604, 729, w -> notes.bolder(2, 0, 4, 4, w));
            Check.fraction("two at most count", 1, 1, w -> notes.bolder(2, 2, 0, 9, w));
            Check.due("sure to win it", notes.bold(2, 2, 0, 9), 1);
            Check.due("sure to lose it", notes.bold(0, 0, 9, 0), 0);
        });
    }

    private static void draws() {
        terms("DRAWN by a seed x: for each draw of n x becomes x * 1103515245 + 12345 (an int, wrapping), the draw is"
                + " (x >>> 8) % n:", () -> {
            Slow slow = new Slow(new int[][][] {{{5, 2}}, {{6, 2}}, {{7, 2}}}, new int[][] {{2, 0}, {1}, {0, 1, 2}},
                    new int[][] {{4, 5, 1}, {8, 2, 5}}, new int[] {5, 7}, 2);
            int[] seeds = {0, 1, -1, 255, 256, Integer.MAX_VALUE, Integer.MIN_VALUE, Integer.MIN_VALUE + 1, 123456789};
            for (int seed : seeds) {
                compare(slow, seed);
            }
        });
    }

    private static void compare(Slow slow, int seed) {
        Party party = new Party(slow, 0, 1, seed);
        Check.due("night by " + seed, slow.notes.night(0, 1, seed), party.points[0] == 3 ? 1 : -1);
        Check.due("rounds by " + seed, slow.notes.nightly(0), party.rounds);
        Check.due("points of p by " + seed, slow.notes.nightly(1), party.points[0]);
        Check.due("points of q by " + seed, slow.notes.nightly(2), party.points[1]);
        Check.due("rights by " + seed, slow.notes.nightly(3), party.rights);
        Check.due("the least bid by " + seed, slow.notes.nightly(4), party.least);
    }

    /** A night whose draws do not matter. */
    private static void night(NameNotes notes, int p, int q, int... due) {
        for (int seed = -20; seed < 20; seed++) {
            Check.due("night", notes.night(p, q, seed), due[0]);
            for (int what = 0; what < 5; what++) {
                Check.due("nightly(" + what + ")", notes.nightly(what), due[what + 1]);
            }
        }
    }

    private static void nights() {
        terms("a NIGHT of two PERSONS: ROUND by ROUND, till one has three points: a draw of all CLUES, of the TUNES that it"
                + " leaves (by numbers); for each of both (the first one ahead), for each TUNE that it leaves (by numbers), a"
                + " draw of 9: below K she knows it; then they bid, in the first ROUND the first one first, then by turns,"
                + " each by her rule:", () -> {
            String two = "tune x 5 2;clue c x;person a;person b;person e;person f;knows a x 9;knows b x 9;";
            night(Check.told(two + "from 1;"), 0, 1, 1, 5, 3, 2, 5, 1);
            night(Check.told(two + "from 1;"), 1, 0, 1, 5, 3, 2, 5, 1);
            night(Check.told(two + "from 8;"), 0, 1, -1, 5, 2, 3, 5, 1);
            night(Check.told(two), 0, 2, 1, 3, 3, 0, 3, 8);
            night(Check.told(two), 2, 0, -1, 3, 0, 3, 3, 8);
            night(Check.told(two), 2, 3, -1, 5, 2, 3, 0, 9);
            Slow slow = new Slow(new int[][][] {{{5, 2}}, {{5, 2}}, {{5, 2}, {7, 1}}}, new int[][] {{2, 1, 0}, {1}, {2, 0}},
                    new int[][] {{3, 6, 5}, {7, 2, 4}}, new int[] {8, 6}, 3);
            for (int seed = 0; seed < 40; seed++) {
                compare(slow, seed * 7919);
            }
        });
        terms("with a bid one note fewer than the latest ('from' at first), if of the TUNES that are LIKE the drawn one by so"
                + " many notes she knows the drawn one and no more than 9 less 'dare' others; else she says NAME IT (at first"
                + " she bids 'from' all the same).", () -> {
            for (int dare = 0; dare <= 9; dare++) {
                for (int tunes = 1; tunes <= 9; tunes++) {
                    NameNotes alike = alike(tunes, dare);
                    alike.night(0, 1, 5);
                    Check.due(tunes + " tunes alike, dare " + dare, alike.nightly(4), tunes - 1 <= 9 - dare ? 1 : 6);
                }
            }
            NameNotes unlike = Check.told("tune w 9 9;tune x 5 2;tune y 5 2;clue c x y;person a;person b;knows a x 9;knows a y 9;"
                    + "knows b x 9;knows b y 9;dare a 9;dare b 9;from 6;");
            unlike.night(0, 1, 1);
            Check.due("one other is too many", unlike.nightly(4), 6);
            unlike.dares(0, 0);
            for (int seed = 0; seed < 9; seed++) {
                unlike.night(0, 1, seed);
                Check.due("not for a, by her own rule", unlike.nightly(4), 5);
                unlike.night(1, 0, seed);
                Check.due("not for a, by her own rule", unlike.nightly(4), 5);
            }
            NameNotes late = Check.told("tune x 5 2 7 1;tune y 5 2 8 1;clue c x y;person a;person b;knows a x 9;knows a y 9;"
                    + "knows b x 9;knows b y 9;dare a 9;dare b 9;from 6;");
            night(late, 0, 1, 1, 5, 3, 2, 5, 2);
            NameNotes lengths = Check.told("tune x 5 2;tune y 5 3;clue c x y;person a;person b;knows a x 9;knows a y 9;"
                    + "knows b x 9;knows b y 9;dare a 9;dare b 9;from 6;");
            night(lengths, 0, 1, -1, 5, 2, 3, 5, 1);
            NameNotes nothing = Check.told("tune x 5 2;clue c x;person a;person b;dare a 0;dare b 0;from 6;");
            night(nothing, 0, 1, -1, 5, 2, 3, 0, 6);
        });
    }

    /** So many tunes all alike, both know all of them. */
    private static NameNotes alike(int tunes, int dare) {
        StringBuilder text = new StringBuilder("person a;person b;from 6;dare a " + dare + ";dare b " + dare + ";");
        StringBuilder clue = new StringBuilder("clue c");
        for (char x = 'r'; x < 'r' + tunes; x++) {
            text.append("tune ").append(x).append(" 5 2;knows a ").append(x).append(" 9;knows b ").append(x).append(" 9;");
            clue.append(' ').append(x);
        }
        return Check.told(text.append(clue).append(';').toString());
    }

    private static void nightNames() {
        terms("Who names draws of those LIKE ones that she knows (by numbers; without any she is wrong and draws nothing).", () -> {
            int[][][] tunes = {{{5, 2}}, {{5, 2}}, {{6, 1}}};
            Slow some = new Slow(tunes, new int[][] {{2, 1, 0}}, new int[][] {{9, 9, 0}, {5, 4, 0}}, new int[] {9, 9}, 1);
            Slow none = new Slow(tunes, new int[][] {{2, 1, 0}}, new int[][] {{0, 0, 9}, {4, 0, 0}}, new int[] {9, 9}, 4);
            for (int seed = -30; seed < 30; seed++) {
                compare(some, seed);
                compare(none, seed);
            }
        });
    }

    private static void sentence(String text, int kind, int place) {
        NameNotes notes = Check.told(TestStudios.SMALL);
        int ones = Check.sentence(notes, text);
        Check.due("fault of '" + text + "'", notes.fault(), kind);
        Check.due("sentence '" + text + "'", kind == 0 ? Math.min(ones, 0) : ones, kind == 0 ? 0 : -1 - place);
    }

    private static void said(String text, int ones, int set) {
        NameNotes notes = Check.told(TestStudios.SMALL);
        Check.due("sentence '" + text + "'", Check.sentence(notes, text), ones);
        int got = 0;
        for (int k = 0; k < notes.said(-1); k++) {
            got |= 1 << notes.said(k);
        }
        Check.due("what '" + text + "' is said of", got, set);
    }

    private static void conds() {
        terms("A SENTENCE is a text of at most 200 bytes: COND: ALL { 'or' ALL }. ALL: ONE { 'and' ONE }.", () -> {
            sentence("in c" + " ".repeat(196), 0, 0);
            sentence(" ".repeat(196) + "in c", 0, 0);
            sentence("in c" + " ".repeat(197), 1, 200);
            sentence(" ".repeat(197) + "in c", 1, 200);
            sentence("", 1, 0);
            said("in c or in d", 2, 7);
            said("in c and in d", 2, 3);
            said("low=6 or in c and sure b", 3, 4);
            said("sure b and in c or low=6", 3, 4);
            said("low=6 or sure b or low=5", 3, 5);
            said("in c and in d and sure a and low=4", 4, 2);
            sentence("in c or", 1, 7);
            sentence("in c and", 1, 8);
            sentence("or in c", 1, 0);
            sentence("and in c", 1, 0);
            sentence("in c or and in c", 1, 8);
            sentence("in c in c", 1, 5);
            sentence("in c;", 1, 4);
        });
    }

    private static void ones() {
        terms("ONE: 'not' ONE | ( COND ) | 'in' CLUE | 'sure' PERSON (she knows it by 9 of 9) | 'like' TUNE (by 3 notes, how"
                + " 0; itself, too) |", () -> {
            said("not in c", 2, 4);
            said("not in c or in c", 3, 7);
            said("not (in c or in d)", 4, 0);
            said("(in c)", 2, 3);
            said("in c", 1, 3);
            said("sure a", 1, 3);
            said("sure b", 1, 0);
            said("like x", 1, 1);
            said("like z", 1, 4);
            NameNotes eight = Check.told(TestStudios.SMALL);
            eight.teach(0, 0, 8);
            Check.sentence(eight, "sure a");
            Check.due("8 of 9 are not sure", eight.said(-1), 1);
            NameNotes by = Check.told("tune x 1 1 2 1 3 1;tune y 1 1 2 1 3 1 4 1;tune z 1 1 2 1;tune u 1 1 2 1 3 2;");
            Check.sentence(by, "like x");
            Check.due("by three notes", by.said(-1), 2);
            Check.due("by three notes", by.said(1), 1);
            Check.sentence(by, "like z");
            Check.due("a note that it lacks", by.said(-1), 1);
            sentence("not", 1, 3);
            sentence("()", 1, 1);
            sentence("(in c", 1, 5);
            sentence("in c)", 1, 4);
            sentence("in", 1, 2);
            sentence("sure", 1, 4);
            sentence("like", 1, 4);
        });
        terms("( 'notes' | 'high' | 'low' | 'beats' ) SIGN NUMBER (how many; the greatest, the least PITCH; all LENGTHS)."
                + " SIGN: < = >.", () -> {
            said("notes=3", 1, 3);
            said("notes<3", 1, 4);
            said("notes>2", 1, 3);
            said("high=9", 1, 1);
            said("high<8", 1, 2);
            said("high>7", 1, 5);
            said("low=4", 1, 2);
            said("low<5", 1, 2);
            said("low>5", 1, 4);
            said("beats=4", 1, 1);
            said("beats<4", 1, 4);
            said("beats>4", 1, 2);
            said("beats>0", 1, 7);
            said("beats<99", 1, 7);
            said("high>24", 1, 0);
            said("low=00", 1, 0);
            sentence("high", 1, 4);
            sentence("high 9", 1, 5);
            sentence("high=", 1, 5);
            sentence("high=x", 1, 5);
            sentence("high=100", 1, 5);
            sentence("high=>9", 1, 5);
            sentence("high;9", 1, 4);
        });
    }

    private static void said() {
        terms("20 ONES, 8 within one another.", () -> {
            said("in c" + " or in c".repeat(19), 20, 3);
            said("not in c" + " or in c".repeat(18), 20, 7);
            said("(in c" + " or in c".repeat(18) + ")", 20, 3);
            said("not ".repeat(7) + "in c", 8, 4);
            said("(".repeat(7) + "in c" + ")".repeat(7), 8, 3);
            said("not(".repeat(3) + "not in c" + ")".repeat(3), 8, 3);
            said("(((((((in c)))))))and(((((((in d)))))))", 16, 3);
        });
        terms("FAULTS: 1, 3 (no such ones), 4 a 21st ONE, a ninth within (at its first TOKEN). It is said of TUNES.", () -> {
            sentence("in q", 3, 3);
            sentence("in x", 3, 3);
            sentence("in a", 3, 3);
            sentence("sure q", 3, 5);
            sentence("sure x", 3, 5);
            sentence("sure c", 3, 5);
            sentence("like q", 3, 5);
            sentence("like c", 3, 5);
            sentence("like a", 3, 5);
            sentence("in 4", 1, 3);
            String twenty = "in c" + " or in c".repeat(19);
            sentence(twenty + " or in c", 4, twenty.length() + 4);
            sentence(twenty + " or not in c", 4, twenty.length() + 4);
            sentence(twenty + " or (in c)", 4, twenty.length() + 4);
            sentence(twenty + " or in q", 4, twenty.length() + 4);
            sentence(twenty + " or q", 1, twenty.length() + 4);
            sentence("in c" + " or in c".repeat(18) + " or not in c", 4, twenty.length());
            sentence("not ".repeat(8) + "in c", 4, 32);
            sentence("not ".repeat(9), 4, 32);
            sentence("(".repeat(8) + "in c", 4, 8);
            sentence("(".repeat(9), 4, 8);
            sentence("(".repeat(8) + "q", 1, 8);
            sentence("(((((((in c)))))))and((((((((in d", 4, 29);
            said("beats<99", 1, 7);
        });
    }

    private static void studios() {
        terms("All fractions are told by two numbers: 0 above, 1 below (1 or more), in least terms.", () -> {
            NameNotes notes = Check.told(ONE + "dare b 3;");
            Check.evening(notes, "clue c;b 4;a name;");
            Check.fraction("nothing", 0, 1, w -> notes.odds(0, 1, 0, w));
            Check.fraction("all", 1, 1, w -> notes.odds(2, 1, 0, w));
            notes.teach(1, 0, 6);
            Check.fraction("6 of 9", 2, 3, w -> notes.odds(1, 1, 0, w));
            OddsTest.dearest();
            for (int wrong : new int[] {-1, 2, Integer.MAX_VALUE, Integer.MIN_VALUE}) {
                Check.throwsNoSuch("named", () -> notes.named(1, 0, 1, 0, wrong));
                Check.throwsNoSuch("odds", () -> notes.odds(1, 1, 0, wrong));
                Check.throwsNoSuch("worth", () -> notes.worth(0, 1, 0, 0, wrong));
                Check.throwsNoSuch("gains", () -> notes.gains(0, 1, 0, 0, wrong));
                Check.throwsNoSuch("held", () -> notes.held(1, 0, 1, 0, 1, wrong));
                Check.throwsNoSuch("among", () -> notes.among(1, 1, 1, wrong));
                Check.throwsNoSuch("match", () -> notes.match(0, 0, 1, wrong));
                Check.throwsNoSuch("bolder", () -> notes.bolder(0, 0, 1, 1, wrong));
                Check.throwsNoSuch("told", () -> notes.told(wrong));
            }
        });
        terms("A new STUDIO: no SENTENCE; nothing can be undone (what other calls told last stays).", () -> {
            NameNotes notes = Check.told(ONE);
            Check.sentence(notes, "in c");
            notes.teach(0, 0, 1);
            notes.write(0);
            notes.night(0, 2, 3);
            int rounds = notes.nightly(0);
            Check.evening(notes, "clue c;a 6;b 5;");
            Check.studio(notes, ONE);
            Check.due("sentence", notes.said(-1), -1);
            Check.due("undo", notes.undo(), -1);
            Check.due("text", Check.text(notes), "5 2");
            Check.due("nightly", notes.nightly(0), rounds);
            Check.due("heard", notes.heard(1), 5);
        });
        terms("A call that throws changes nothing.", () -> {
            NameNotes notes = Check.told(ONE);
            Check.sentence(notes, "in c");
            notes.teach(0, 0, 1);
            notes.write(0);
            notes.night(0, 2, 3);
            Check.evening(notes, "clue c;a 6;b 5;");
            Check.feed(notes, "abc");
            String before = state(notes);
            for (int wrong : Check.outside(10)) {
                Check.noFraction("named", w -> notes.named(wrong, 0, 1, 0, w));
                Check.noFraction("odds", w -> notes.odds(wrong, 1, 0, w));
                Check.noFraction("worth", w -> notes.worth(wrong, 0, 1, 0, w));
                Check.noFraction("gains", w -> notes.gains(0, wrong, 1, 0, w));
                Check.noFraction("held", w -> notes.held(0, wrong, 1, 0, 0, w));
                Check.noFraction("among", w -> notes.among(0, 1, wrong, w));
                Check.noFraction("match", w -> notes.match(wrong, 0, 1, w));
                Check.noFraction("bolder", w -> notes.bolder(0, wrong, 1, 1, w));
                Check.noFraction("told", w -> notes.told(w));
            }
            Check.due("all that was", state(notes), before);
            Check.due("undo", notes.undo(), 0);
        });
    }

    private static String state(NameNotes notes) {
        StringBuilder all = new StringBuilder(Check.text(notes));
        for (int what = 0; what < 5; what++) {
            all.append(' ').append(notes.count(what)).append(' ').append(notes.heard(what)).append(' ')
                    .append(notes.nightly(what));
        }
        for (int p = 0; p < notes.count(2); p++) {
            all.append(' ').append(notes.knows(p, 0)).append(' ').append(notes.dare(p));
        }
        return all.append(' ').append(notes.said(-1)).append(' ').append(notes.fault()).toString();
    }
}
