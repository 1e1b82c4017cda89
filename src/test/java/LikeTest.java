import java.util.HashSet;
import java.util.List;
import java.util.Set;

/** Promises 12 to 14, 30, 40 to 46: which tunes are like, how far apart they are, and their ranks. */
public final class LikeTest {
    private static final int RUNS = 60;

    public static void main(String[] args) {
        byHand();
        nineNotes();
        wrongInputs();
        for (int seed = 0; seed < RUNS; seed++) {
            Slow slow = new Slow(seed);
            beginnings(slow);
            wholeTunes(slow);
            ranks(slow);
            covers(slow);
        }
        Check.end();
    }

    private static NameNotes small() {
        return Check.told("tune x 5 2 7 1 9 1;tune y 5 2 7 1 4 3;tune z 6 2 8 1;tune u 5 2 7 1 9 1;clue c x y;clue d x y z;clue e u;");
    }

    private static void byHand() {
        NameNotes notes = small();
        Check.due("begins by pitch and length", notes.begins(0, 2, 0, -1), 11);
        Check.due("begins by length", notes.begins(0, 2, 2, -1), 15);
        Check.due("a note that one lacks", notes.begins(0, 3, 2, -1), 9);
        Check.due("begins by steps", notes.begins(2, 2, 3, 0), 3);
        Check.due("notes that both lack", notes.begins(0, 9, 0, -1), 9);
        Check.due("parts", notes.parts(3, 0, -1), 3);
        Check.due("enough of one left alone", notes.enough(3, 0, 2), 1);
        Check.due("none are enough", notes.enough(0, 0, -1), -1);
        Check.due("it does not leave it", notes.enough(2, 0, 0), -1);
        Check.due("enough", notes.enough(0, 0, 0), 3);
        Check.due("hardest", notes.hardest(0, 1), 0);
        Check.due("pairs", notes.twins(3, 0, -1, -1), 1);
        Check.due("the pair", notes.twins(3, 0, -1, 0), 3);
        Check.due("no second pair", notes.twins(3, 0, -1, 1), -1);
        Check.due("alike", notes.alike(0, 1, 0), 2);
        Check.due("alike with itself", notes.alike(0, 0, 0), 9);
        Check.due("alike all through", notes.alike(0, 3, 0), 9);
        Check.due("apart from itself", notes.apart(0, 0), 0);
        Check.due("apart", notes.apart(0, 1), 1);
        Check.due("apart by length alone", notes.apart(0, 2), 3);
        Check.due("nearest", notes.nearest(0, -1), 3);
        Check.due("nearest of a clue that does not leave it", notes.nearest(3, 1), 0);
        Check.due("nearest of none", notes.nearest(3, 2), -1);
        Check.due("rank by notes", notes.rank(0, 0), 2);
        Check.due("commonest", notes.commonest(), 5);
        Check.due("cover", notes.cover(), 6);
        NameNotes alone = Check.told("tune x 3 1 2 1;tune y 1 1;clue c x;");
        Check.due("all together do not", alone.cover(), -1);
        Check.due("of like ones the least", alone.commonest(), 1);
        Check.due("cover of no tunes", new NameNotes().cover(), 0);
        Check.due("commonest of no tunes", new NameNotes().commonest(), -1);
    }

    /** Two tunes of nine notes, the ninth ones unlike in length alone. */
    private static void nineNotes() {
        String eight = " 3 3".repeat(8);
        NameNotes notes = Check.told("tune x" + eight + " 3 3;tune y" + eight + " 3 4;clue c x y;person a;person b;"
                + "knows a x 9;knows a y 9;knows b x 9;dare b 9;");
        Check.due("alike", notes.alike(0, 1, 0), 8);
        Check.due("alike in pitch", notes.alike(0, 1, 1), 9);
        Check.due("enough", notes.enough(0, 0, -1), 9);
        Check.due("enough in pitch", notes.enough(0, 1, -1), -1);
        Check.due("pairs by eight", notes.twins(8, 0, 0, -1), 1);
        Check.due("pairs by nine", notes.twins(9, 0, 0, -1), 0);
        Check.due("parts by eight", notes.parts(8, 0, 0), 1);
        Check.due("parts by nine", notes.parts(9, 0, 0), 2);
        Check.due("needs", notes.needs(0, 9, 0), 9);
        Check.due("needs half", notes.needs(0, 4, 0), 1);
        Check.due("needs what can't be", notes.needs(1, 9, 0), -1);
        Check.due("best at first", notes.best(0, 1, 0, 0), 9);
        Ratio.ONE.due("odds by nine", notes.odds(0, 9, 0, 0), notes.odds(0, 9, 0, 1));
        Check.due("when the ninth comes", notes.when(0, 8), 24);
    }

    private static void wrongInputs() {
        NameNotes notes = small();
        for (int wrong : new int[] {-2, 9, Integer.MAX_VALUE, Integer.MIN_VALUE}) {
            Check.due("begins of no tune", notes.begins(wrong, 1, 0, -1), -1);
            Check.due("begins by no way", notes.begins(0, 1, wrong, -1), -1);
            Check.due("begins of no clue", notes.begins(0, 1, 0, wrong), -1);
            Check.due("parts by no way", notes.parts(1, wrong, -1), -1);
            Check.due("parts of no clue", notes.parts(1, 0, wrong), -1);
            Check.due("enough of no tune", notes.enough(wrong, 0, -1), -1);
            Check.due("enough by no way", notes.enough(0, wrong, -1), -1);
            Check.due("enough of no clue", notes.enough(0, 0, wrong), -1);
            Check.due("hardest by no way", notes.hardest(wrong, 0), -1);
            Check.due("hardest of no clue", notes.hardest(0, wrong), -1);
            Check.due("twins by no way", notes.twins(1, wrong, -1, -1), -1);
            Check.due("twins of no clue", notes.twins(1, 0, wrong, -1), -1);
            Check.due("twins of no such pair", notes.twins(1, 0, -1, wrong), -1);
            Check.due("alike by no way", notes.alike(0, 1, wrong), -1);
            Check.due("alike of no tune", notes.alike(0, wrong, 0), -1);
            Check.due("apart from no tune", notes.apart(0, wrong), -1);
            Check.due("apart of no tune", notes.apart(wrong, 0), -1);
            Check.due("nearest to no tune", notes.nearest(wrong, -1), -1);
            Check.due("nearest of no clue", notes.nearest(0, wrong), -1);
            Check.due("rank of none", notes.rank(wrong, 0), -1);
            Check.due("rank by nothing", notes.rank(0, wrong), -1);
        }
        for (int n : new int[] {-1, 0, 10}) {
            Check.due("begins by no notes", notes.begins(0, n, 0, -1), -1);
            Check.due("parts by no notes", notes.parts(n, 0, -1), -1);
            Check.due("twins by no notes", notes.twins(n, 0, -1, -1), -1);
        }
        Check.due("hardest of all", notes.hardest(0, -1), -1);
    }

    private static void beginnings(Slow slow) {
        for (int c = -1; c < slow.clues.size(); c++) {
            List<Integer> set = slow.setOf(c);
            for (int how = 0; how < 4; how++) {
                for (int n = 1; n <= 9; n++) {
                    oneBeginning(slow, set, n, how, c);
                }
                hardest(slow, set, how, c);
            }
        }
    }

    private static void oneBeginning(Slow slow, List<Integer> set, int n, int how, int c) {
        Set<Integer> parts = new HashSet<>();
        int pairs = 0;
        for (int x = 0; x < slow.tunes.length; x++) {
            int bits = slow.bits(slow.likes(x, n, how, set));
            Check.due("begins", slow.notes.begins(x, n, how, c), bits);
            if (set.contains(x)) {
                parts.add(bits);
                for (int y = x + 1; y < slow.tunes.length; y++) {
                    if ((bits >> y & 1) == 1) {
                        Check.due("a pair", slow.notes.twins(n, how, c, pairs), 10 * x + y);
                        pairs++;
                    }
                }
            }
        }
        Check.due("pairs", slow.notes.twins(n, how, c, -1), pairs);
        Check.due("no more pairs", slow.notes.twins(n, how, c, pairs), -1);
        Check.due("parts", slow.notes.parts(n, how, c), parts.size());
    }

    private static void hardest(Slow slow, List<Integer> set, int how, int c) {
        int hardest = -1;
        int most = 0;
        for (int x = 0; x < slow.tunes.length; x++) {
            int enough = 10;
            for (int n = 9; n >= 1; n--) {
                if (set.contains(x) && slow.likes(x, n, how, set).size() == 1) {
                    enough = n;
                }
            }
            Check.due("enough", slow.notes.enough(x, how, c), enough == 10 ? -1 : enough);
            if (set.contains(x) && enough > most) {
                hardest = x;
                most = enough;
            }
        }
        Check.due("hardest", slow.notes.hardest(how, c), c < 0 ? -1 : hardest);
    }

    private static void wholeTunes(Slow slow) {
        for (int x = 0; x < slow.tunes.length; x++) {
            for (int y = 0; y < slow.tunes.length; y++) {
                for (int how = 0; how < 4; how++) {
                    int alike = 0;
                    for (int n = 1; n <= 9; n++) {
                        alike = slow.like(x, y, n, how) ? n : alike;
                    }
                    Check.due("alike", slow.notes.alike(x, y, how), alike);
                }
                Check.due("apart", slow.notes.apart(x, y), apart(slow, x, 0, y, 0));
            }
            for (int c = -1; c < slow.clues.size(); c++) {
                int nearest = -1;
                for (int y = slow.tunes.length - 1; y >= 0; y--) {
                    boolean other = y != x && slow.setOf(c).contains(y);
                    if (other && (nearest < 0 || apart(slow, x, 0, y, 0) <= apart(slow, x, 0, nearest, 0))) {
                        nearest = y;
                    }
                }
                Check.due("nearest", slow.notes.nearest(x, c), nearest);
            }
        }
    }

    private static int apart(Slow slow, int x, int i, int y, int j) {
        int[][] mine = slow.tunes[x];
        int[][] yours = slow.tunes[y];
        if (i == mine.length || j == yours.length) {
            return mine.length - i + yours.length - j;
        }
        boolean same = mine[i][0] == yours[j][0] && mine[i][1] == yours[j][1];
        int changed = apart(slow, x, i + 1, y, j + 1) + (same ? 0 : 1);
        int moved = 1 + Math.min(apart(slow, x, i + 1, y, j), apart(slow, x, i, y, j + 1));
        return Math.min(changed, moved);
    }

    private static void ranks(Slow slow) {
        for (int what = 0; what < 4; what++) {
            int by = what;
            List<Integer> order = slow.all();
            order.sort((x, y) -> measure(slow, x, by) - measure(slow, y, by));
            for (int k = 0; k < order.size(); k++) {
                Check.due("rank", slow.notes.rank(k, what), order.get(k));
                Check.due("tune", slow.notes.tune(k, what), measure(slow, k, what));
            }
            Check.due("rank behind the last", slow.notes.rank(order.size(), what), -1);
        }
        int[] times = new int[25];
        for (int[][] tune : slow.tunes) {
            for (int[] note : tune) {
                times[note[0]]++;
            }
        }
        int commonest = 0;
        for (int pitch = 0; pitch < 25; pitch++) {
            commonest = times[pitch] > times[commonest] ? pitch : commonest;
        }
        Check.due("commonest", slow.notes.commonest(), commonest);
    }

    private static int measure(Slow slow, int x, int what) {
        int result = what == 2 ? 24 : 0;
        for (int[] note : slow.tunes[x]) {
            switch (what) {
                case 0:
                    result++;
                    break;
                case 1:
                    result = Math.max(result, note[0]);
                    break;
                case 2:
                    result = Math.min(result, note[0]);
                    break;
                default:
                    result += note[1];
            }
        }
        return result;
    }

    private static void covers(Slow slow) {
        int found = -1;
        for (int some = (1 << slow.clues.size()) - 1; some >= 0; some--) {
            Set<Integer> left = new HashSet<>();
            for (int c = 0; c < slow.clues.size(); c++) {
                if ((some >> c & 1) == 1) {
                    left.addAll(slow.clues.get(c));
                }
            }
            if (left.size() == slow.tunes.length && (found < 0 || Integer.bitCount(some) <= Integer.bitCount(found))) {
                found = some;
            }
        }
        Check.due("cover", slow.notes.cover(), found);
    }
}
