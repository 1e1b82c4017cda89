import java.util.ArrayList;
import java.util.List;

/** Promises 50 to 52: nights drawn by a seed. */
public final class NightTest {
    private static final int RUNS = 60;

    public static void main(String[] args) {
        for (int seed = 500; seed < 500 + RUNS; seed++) {
            Slow slow = new Slow(seed);
            int p = slow.draw(slow.knows.length);
            int q = (p + 1 + slow.draw(slow.knows.length - 1)) % slow.knows.length;
            spend(slow, p, q);
        }
        wrongInputs();
        Check.end();
    }

    private static void spend(Slow slow, int p, int q) {
        NameNotes notes = slow.notes;
        int[] seeds = {0, 1, -1, Integer.MAX_VALUE - 3, Integer.MIN_VALUE, slow.draw(1 << 30)};
        for (int seed : seeds) {
            Party party = new Party(slow, p, q, seed);
            Check.due("night", notes.night(p, q, seed), party.points[0] == 3 ? 1 : -1);
            Check.due("rounds", notes.nightly(0), party.rounds);
            Check.due("points of p", notes.nightly(1), party.points[0]);
            Check.due("points of q", notes.nightly(2), party.points[1]);
            Check.due("named right", notes.nightly(3), party.rights);
            Check.due("the least bid", notes.nightly(4), party.least);
            Check.due("nightly(5)", notes.nightly(5), -1);
            Check.due("nightly(-1)", notes.nightly(-1), -1);
            int wins = 0;
            for (int i = 0; i < 100; i++) {
                wins += new Party(slow, p, q, seed + i).points[0] == 3 ? 1 : 0;
                if (i == 0 || i == 99) {
                    Check.due("nights", notes.nights(p, q, i + 1, seed), wins);
                }
            }
            Check.due("nights leave nightly()", notes.nightly(0), party.rounds);
        }
    }

    private static void wrongInputs() {
        NameNotes notes = Check.told("tune x 5 2;clue c x;person a;person b;");
        for (int wrong : new int[] {-1, 2, Integer.MAX_VALUE, Integer.MIN_VALUE}) {
            Check.due("night of nobody", notes.night(wrong, 1, 1), -2);
            Check.due("night of nobody", notes.night(0, wrong, 1), -2);
            Check.due("nights of nobody", notes.nights(wrong, 1, 1, 1), -1);
            Check.due("nights of nobody", notes.nights(0, wrong, 1, 1), -1);
        }
        Check.due("night alone", notes.night(1, 1, 1), -2);
        Check.due("nights alone", notes.nights(1, 1, 1, 1), -1);
        Check.due("no nights", notes.nights(0, 1, 0, 1), -1);
        Check.due("too many nights", notes.nights(0, 1, 101, 1), -1);
        Check.due("nightly ahead of any", notes.nightly(0), -1);
        notes.night(0, 1, 4);
        int rounds = notes.nightly(0);
        Check.due("rounds", rounds >= 3, true);
        Check.due("night alone", notes.night(0, 0, 4), -2);
        Check.due("the latest that was one", notes.nightly(0), rounds);
        Check.studio(notes, "person a;person b;");
        Check.due("night without clues", notes.night(0, 1, 1), -2);
        Check.due("nights without clues", notes.nights(0, 1, 1, 1), -1);
        Check.due("nightly stays", notes.nightly(0), rounds);
    }

    /** A night by the letters of the document. */
    private static final class Party {
        final int[] points = new int[2];
        int rounds;
        int rights;
        int least = 9;
        private final Slow slow;
        private final int[] persons;
        private int x;

        Party(Slow slow, int p, int q, int seed) {
            this.slow = slow;
            persons = new int[] {p, q};
            x = seed;
            while (points[0] < 3 && points[1] < 3) {
                round(rounds % 2);
                rounds++;
            }
        }

        private int draw(int n) {
            x = x * 1103515245 + 12345;
            return (x >>> 8) % n;
        }

        private void round(int first) {
            List<Integer> set = new ArrayList<>(slow.clues.get(draw(slow.clues.size())));
            set.sort(null);
            int tune = set.get(draw(set.size()));
            boolean[][] knows = new boolean[2][9];
            for (int side = 0; side < 2; side++) {
                for (int y : set) {
                    knows[side][y] = draw(9) < slow.knows[persons[side]][y];
                }
            }
            int bid = slow.from;
            int speaker = 1 - first;
            while (goesOn(knows[speaker], tune, bid - 1, set, slow.dares[persons[speaker]])) {
                bid--;
                speaker = 1 - speaker;
            }
            least = Math.min(least, bid);
            List<Integer> known = new ArrayList<>();
            for (int y : slow.likes(tune, bid, 0, set)) {
                if (knows[1 - speaker][y]) {
                    known.add(y);
                }
            }
            boolean right = !known.isEmpty() && known.get(draw(known.size())) == tune;
            rights += right ? 1 : 0;
            points[right ? 1 - speaker : speaker]++;
        }

        private boolean goesOn(boolean[] knows, int tune, int n, List<Integer> set, int dare) {
            if (n == 0 || !knows[tune]) {
                return false;
            }
            int others = 0;
            for (int y : slow.likes(tune, n, 0, set)) {
                others += y != tune && knows[y] ? 1 : 0;
            }
            return others <= 9 - dare;
        }
    }
}
