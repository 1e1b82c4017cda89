import java.util.ArrayList;
import java.util.List;

/** Promises 15 to 17, 23, 24, 29, 31 and 38: by what odds one names a tune, and what is worth learning. */
public final class OddsTest {
    private static final int RUNS = 40;

    public static void main(String[] args) {
        byHand();
        wrongInputs();
        dearest();
        for (int seed = 100; seed < 100 + RUNS; seed++) {
            Slow slow = new Slow(seed);
            int c = slow.draw(slow.clues.size());
            int p = slow.draw(slow.knows.length);
            names(slow, p, c);
            needs(slow, p, c);
            among(slow, p);
            ablest(slow, c);
            learns(slow, p, c);
        }
        Check.end();
    }

    private static NameNotes small() {
        return Check.told("tune x 5 2 7 1;tune y 5 2 4 3;tune z 6 2;clue c x y;clue d x y z;person a;person b;"
                + "knows a x 9;knows a y 9;knows b x 3;");
    }

    private static void byHand() {
        NameNotes notes = small();
        Ratio.of(1, 2).due("named of two like ones", notes.named(0, 0, 1, 0, 0), notes.named(0, 0, 1, 0, 1));
        Ratio.of(0, 1).due("odds none", notes.named(1, 1, 1, 0, 0), notes.named(1, 1, 1, 0, 1));
        Ratio.of(2, 3).due("odds", notes.odds(0, 2, 1, 0), notes.odds(0, 2, 1, 1));
        Check.due("needs", notes.needs(0, 5, 0), 2);
        Check.due("needs for nothing", notes.needs(1, 0, 0), 1);
        Check.due("none are enough", notes.needs(1, 2, 0), -1);
        Ratio.ONE.due("held if right", notes.held(1, 0, 1, 0, 1, 0), notes.held(1, 0, 1, 0, 1, 1));
        Ratio.ONE.due("held if wrong", notes.held(0, 0, 1, 0, 0, 0), notes.held(0, 0, 1, 0, 0, 1));
        Ratio.ZERO.due("not held if wrong", notes.held(1, 0, 2, 0, 0, 0), notes.held(1, 0, 2, 0, 0, 1));
        Check.throwsNoSuch("it can't be wrong", () -> notes.held(0, 0, 2, 0, 0, 0));
        Check.throwsNoSuch("it can't be right", () -> notes.held(1, 1, 1, 0, 1, 0));
        Check.due("ablest", notes.ablest(1, 0), 0);
        Check.due("learn none", notes.learn(1, 1, 0, 0), 0);
        Check.due("of like ones the least set", notes.learn(1, 1, 0, 9), 1);
        Check.due("learn as many as help", notes.learn(1, 2, 1, 9), 7);
        Check.due("learn what is known already", notes.learn(0, 2, 0, 9), 0);
        Check.due("lessons", notes.lessons(1, 2, 0, 9), 3);
        Check.due("lessons for nothing", notes.lessons(1, 2, 0, 0), 0);
        Check.due("none are enough", notes.lessons(1, 1, 0, 9), -1);
        NameNotes nobody = Check.told("tune x 5 2;clue c x;");
        Check.due("no ablest", nobody.ablest(1, 0), -1);
    }

    private static void wrongInputs() {
        NameNotes notes = small();
        for (int wrong : new int[] {-1, 10, Integer.MAX_VALUE, Integer.MIN_VALUE}) {
            Check.throwsNoSuch("named by nobody", () -> notes.named(wrong, 0, 1, 0, 0));
            Check.throwsNoSuch("named no tune", () -> notes.named(0, wrong, 1, 0, 0));
            Check.throwsNoSuch("named by no notes", () -> notes.named(0, 0, wrong, 0, 0));
            Check.throwsNoSuch("named behind no clue", () -> notes.named(0, 0, 1, wrong, 0));
            Check.throwsNoSuch("named, no such part", () -> notes.named(0, 0, 1, 0, wrong));
            Check.throwsNoSuch("odds of nobody", () -> notes.odds(wrong, 1, 0, 0));
            Check.throwsNoSuch("odds by no notes", () -> notes.odds(0, wrong, 0, 0));
            Check.throwsNoSuch("odds behind no clue", () -> notes.odds(0, 1, wrong, 0));
            Check.throwsNoSuch("odds, no such part", () -> notes.odds(0, 1, 0, wrong));
            Check.throwsNoSuch("held by nobody", () -> notes.held(wrong, 0, 1, 0, 0, 0));
            Check.throwsNoSuch("held, no tune", () -> notes.held(0, wrong, 1, 0, 0, 0));
            Check.throwsNoSuch("held by no notes", () -> notes.held(0, 0, wrong, 0, 0, 0));
            Check.throwsNoSuch("held behind no clue", () -> notes.held(0, 0, 1, wrong, 0, 0));
            Check.throwsNoSuch("held neither right nor wrong", () -> notes.held(0, 0, 1, 0, wrong, 0));
            Check.throwsNoSuch("held, no such part", () -> notes.held(0, 0, 1, 0, 0, wrong));
            Check.throwsNoSuch("among, nobody", () -> notes.among(wrong, 1, 1, 0));
            Check.throwsNoSuch("among by no notes", () -> notes.among(0, wrong, 1, 0));
            Check.throwsNoSuch("among no tunes", () -> notes.among(0, 1, wrong, 0));
            Check.throwsNoSuch("among, no such part", () -> notes.among(0, 1, 1, wrong));
            Check.due("needs of nobody", notes.needs(wrong, 1, 0), -1);
            Check.due("needs for too much", notes.needs(0, wrong, 0), -1);
            Check.due("needs behind no clue", notes.needs(0, 1, wrong), -1);
            Check.due("ablest by no notes", notes.ablest(wrong, 0), -1);
            Check.due("ablest behind no clue", notes.ablest(1, wrong), -1);
            Check.due("learn of nobody", notes.learn(wrong, 1, 0, 1), -1);
            Check.due("learn by no notes", notes.learn(0, wrong, 0, 1), -1);
            Check.due("learn behind no clue", notes.learn(0, 1, wrong, 1), -1);
            Check.due("learn too many", notes.learn(0, 1, 0, wrong), -1);
            Check.due("lessons of nobody", notes.lessons(wrong, 1, 0, 1), -1);
            Check.due("lessons by no notes", notes.lessons(0, wrong, 0, 1), -1);
            Check.due("lessons behind no clue", notes.lessons(0, 1, wrong, 1), -1);
            Check.due("lessons for too much", notes.lessons(0, 1, 0, wrong), -1);
        }
        Check.throwsNoSuch("named by nought notes", () -> notes.named(0, 0, 0, 0, 0));
        Check.throwsNoSuch("odds by nought notes", () -> notes.odds(0, 0, 0, 0));
        Check.throwsNoSuch("among none", () -> notes.among(0, 1, 0, 0));
        Check.throwsNoSuch("among more than there are", () -> notes.among(0, 1, 8, 0));
        Check.throwsNoSuch("a tune that is not left", () -> notes.named(0, 2, 1, 0, 0));
        Check.throwsNoSuch("held of a tune that is not left", () -> notes.held(0, 2, 1, 0, 0, 0));
        Check.due("ablest by nought notes", notes.ablest(0, 0), -1);
    }

    /** Nine tunes all alike, each known by few ninths: the longest fractions there are. */
    static void dearest() {
        dearest(1, 2, 4, 5, 7, 8, 1, 2, 5);
        NameNotes notes = dearest(1, 1, 5, 1, 7, 1, 8, 5, 1);
        Check.fraction("one in least terms from the start", 27796570133L, 387420489L * 2520L, w -> notes.named(0, 0, 1, 0, w));
    }

    private static NameNotes dearest(int... known) {
        StringBuilder text = new StringBuilder();
        for (int x = 0; x < 9; x++) {
            text.append("tune ").append(Slow.tuneName(x)).append(" 3 3;");
        }
        text.append("clue c ta tb tc td te tf tg th ti;person p;");
        for (int x = 0; x < 9; x++) {
            text.append("knows p ").append(Slow.tuneName(x)).append(' ').append(known[x]).append(';');
        }
        NameNotes notes = Check.told(text.toString());
        Ratio sum = Ratio.ZERO;
        for (int x = 0; x < 9; x++) {
            Ratio chance = Ratio.ZERO;
            for (int some = 0; some < 512; some++) {
                if ((some >> x & 1) == 1) {
                    Ratio one = Ratio.of(1, Integer.bitCount(some));
                    for (int y = 0; y < 9; y++) {
                        one = one.times(Ratio.of((some >> y & 1) == 1 ? known[y] : 9 - known[y], 9));
                    }
                    chance = chance.plus(one);
                }
            }
            chance.due("the longest named", notes.named(0, x, 9, 0, 0), notes.named(0, x, 9, 0, 1));
            sum = sum.plus(chance);
        }
        sum.times(Ratio.of(1, 9)).due("the longest odds", notes.odds(0, 9, 0, 0), notes.odds(0, 9, 0, 1));
        return notes;
    }

    private static void names(Slow slow, int p, int c) {
        NameNotes notes = slow.notes;
        List<Integer> set = slow.setOf(c);
        for (int n = 1; n <= 9; n += 1 + slow.draw(2)) {
            int by = n;
            for (int x : set) {
                Ratio named = slow.named(slow.knows[p], x, n, set);
                named.due("named", notes.named(p, x, n, c, 0), notes.named(p, x, n, c, 1));
                if (named.compare(Ratio.ZERO) == 0) {
                    Check.throwsNoSuch("held, never right", () -> notes.held(p, x, by, c, 1, 0));
                } else {
                    Ratio.ONE.due("held, right", notes.held(p, x, n, c, 1, 0), notes.held(p, x, n, c, 1, 1));
                }
                if (named.compare(Ratio.ONE) == 0) {
                    Check.throwsNoSuch("held, never wrong", () -> notes.held(p, x, by, c, 0, 0));
                } else {
                    Ratio held = Ratio.of(slow.knows[p][x], 9).less(named).over(named.rest());
                    held.due("held, wrong", notes.held(p, x, n, c, 0, 0), notes.held(p, x, n, c, 0, 1));
                }
            }
            Ratio odds = slow.odds(slow.knows[p], n, set);
            odds.due("odds", notes.odds(p, n, c, 0), notes.odds(p, n, c, 1));
        }
    }

    private static void needs(Slow slow, int p, int c) {
        for (int k = 0; k <= 9; k++) {
            int needs = -1;
            for (int n = 9; n >= 1; n--) {
                if (slow.odds(slow.knows[p], n, slow.setOf(c)).compare(Ratio.of(k, 9)) >= 0) {
                    needs = n;
                }
            }
            Check.due("needs", slow.notes.needs(p, k, c), needs);
        }
    }

    private static void among(Slow slow, int p) {
        for (int i = 0; i < 10; i++) {
            int bits = 1 + slow.draw((1 << slow.tunes.length) - 1);
            List<Integer> set = new ArrayList<>();
            for (int x : slow.all()) {
                if ((bits >> x & 1) == 1) {
                    set.add(x);
                }
            }
            int n = 1 + slow.draw(5);
            Ratio odds = slow.odds(slow.knows[p], n, set);
            odds.due("among", slow.notes.among(p, n, bits, 0), slow.notes.among(p, n, bits, 1));
        }
    }

    private static void ablest(Slow slow, int c) {
        for (int n = 1; n <= 9; n += 2) {
            int ablest = 0;
            for (int p = 1; p < slow.knows.length; p++) {
                Ratio odds = slow.odds(slow.knows[p], n, slow.setOf(c));
                if (odds.compare(slow.odds(slow.knows[ablest], n, slow.setOf(c))) > 0) {
                    ablest = p;
                }
            }
            Check.due("ablest", slow.notes.ablest(n, c), ablest);
        }
    }

    private static void learns(Slow slow, int p, int c) {
        List<Integer> set = slow.setOf(c);
        if (set.size() > 5) {
            return;
        }
        int n = 1 + slow.draw(4);
        int bits = slow.bits(set);
        Ratio[] odds = new Ratio[bits + 1];
        for (int sure = 0; sure <= bits; sure++) {
            if ((sure & ~bits) == 0) {
                int[] known = slow.knows[p].clone();
                for (int x : set) {
                    known[x] = (sure >> x & 1) == 1 ? 9 : known[x];
                }
                odds[sure] = slow.odds(known, n, set);
            }
        }
        for (int k = 0; k <= 9; k++) {
            Check.due("learn", slow.notes.learn(p, n, c, k), learnt(odds, k));
            Check.due("lessons", slow.notes.lessons(p, n, c, k), taught(odds, k));
        }
    }

    private static int learnt(Ratio[] odds, int k) {
        int found = 0;
        for (int sure = 1; sure < odds.length; sure++) {
            if (odds[sure] != null && Integer.bitCount(sure) <= k) {
                int order = odds[sure].compare(odds[found]);
                if (order > 0 || order == 0 && Integer.bitCount(sure) < Integer.bitCount(found)) {
                    found = sure;
                }
            }
        }
        return found;
    }

    private static int taught(Ratio[] odds, int k) {
        int found = -1;
        for (int sure = odds.length - 1; sure >= 0; sure--) {
            if (odds[sure] != null && odds[sure].compare(Ratio.of(k, 9)) >= 0
                    && (found < 0 || Integer.bitCount(sure) <= Integer.bitCount(found))) {
                found = sure;
            }
        }
        return found;
    }
}
