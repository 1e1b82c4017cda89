/** Promises 50 to 52: nights drawn by a seed. */
public final class NightTest {
    private static final int RUNS = 60;

    public static void main(String[] args) {
        for (int seed = 500; seed < 500 + RUNS; seed++) {
            Slow slow = new Slow(seed);
            int p = slow.draw(slow.knows.length);
            int q = (p + 1 + slow.draw(slow.knows.length - 1)) % slow.knows.length;
            spend(slow, p, q);
        }
        wrongInputs();
        Check.end();
    }

    private static void spend(Slow slow, int p, int q) {
        NameNotes notes = slow.notes;
        int[] seeds = {0, 1, -1, Integer.MAX_VALUE - 3, Integer.MIN_VALUE, slow.draw(1 << 30)};
        for (int seed : seeds) {
            Party party = new Party(slow, p, q, seed);
            Check.due("night", notes.night(p, q, seed), party.points[0] == 3 ? 1 : -1);
            Check.due("rounds", notes.nightly(0), party.rounds);
            Check.due("points of p", notes.nightly(1), party.points[0]);
            Check.due("points of q", notes.nightly(2), party.points[1]);
            Check.due("named right", notes.nightly(3), party.rights);
            Check.due("the least bid", notes.nightly(4), party.least);
            Check.due("nightly(5)", notes.nightly(5), -1);
            Check.due("nightly(-1)", notes.nightly(-1), -1);
            int wins = 0;
            for (int i = 0; i < 100; i++) {
                wins += new Party(slow, p, q, seed + i).points[0] == 3 ? 1 : 0;
                if (i == 0 || i == 99) {
                    Check.due("nights", notes.nights(p, q, i + 1, seed), wins);
                }
            }
            Check.due("nights leave nightly()", notes.nightly(0), party.rounds);
        }
    }

    private static void wrongInputs() {
        NameNotes notes = Check.told("tune x 5 2;clue c x;person a;person b;");
        for (int wrong : new int[] {-1, 2, Integer.MAX_VALUE, Integer.MIN_VALUE}) {
            Check.due("night of nobody", notes.night(wrong, 1, 1), -2);
            Check.due("night of nobody", notes.night(0, wrong, 1), -2);
            Check.due("nights of nobody", notes.nights(wrong, 1, 1, 1), -1);
            Check.due("nights of nobody", notes.nights(0, wrong, 1, 1), -1);
        }
        Check.due("night alone", notes.night(1, 1, 1), -2);
        Check.due("nights alone", notes.nights(1, 1, 1, 1), -1);
        Check.due("no nights", notes.nights(0, 1, 0, 1), -1);
        Check.due("too many nights", notes.nights(0, 1, 101, 1), -1);
        Check.due("nightly ahead of any", notes.nightly(0), -1);
        notes.night(0, 1, 4);
        int rounds = notes.nightly(0);
        Check.due("rounds", rounds >= 3, true);
        Check.due("night alone", notes.night(0, 0, 4), -2);
        Check.due("the latest that was one", notes.nightly(0), rounds);
        Check.studio(notes, "person a;person b;");
        Check.due("night without clues", notes.night(0, 1, 1), -2);
        Check.due("nights without clues", notes.nights(0, 1, 1, 1), -1);
        Check.due("nightly stays", notes.nightly(0), rounds);
    }
}
