import java.util.ArrayList;
import java.util.List;

/** A night by the letters of the document. */
final class Party {
    final int[] points = new int[2];
    int rounds;
    int rights;
    int least = 9;
    private final Slow slow;
    private final int[] persons;
    private int x;

    Party(Slow slow, int p, int q, int seed) {
        this.slow = slow;
        persons = new int[] {p, q};
        x = seed;
        while (points[0] < 3 && points[1] < 3) {
            round(rounds % 2);
            rounds++;
        }
    }

    private int draw(int n) {
        x = x * 1103515245 + 12345;
        return (x >>> 8) % n;
    }

    private void round(int first) {
        List<Integer> set = new ArrayList<>(slow.clues.get(draw(slow.clues.size())));
        set.sort(null);
        int tune = set.get(draw(set.size()));
        boolean[][] knows = new boolean[2][9];
        for (int side = 0; side < 2; side++) {
            for (int y : set) {
                knows[side][y] = draw(9) < slow.knows[persons[side]][y];
            }
        }
        int bid = slow.from;
        int speaker = 1 - first;
        while (goesOn(knows[speaker], tune, bid - 1, set, slow.dares[persons[speaker]])) {
            bid--;
            speaker = 1 - speaker;
        }
        least = Math.min(least, bid);
        List<Integer> known = new ArrayList<>();
        for (int y : slow.likes(tune, bid, 0, set)) {
            if (knows[1 - speaker][y]) {
                known.add(y);
            }
        }
        boolean right = !known.isEmpty() && known.get(draw(known.size())) == tune;
        rights += right ? 1 : 0;
        points[right ? 1 - speaker : speaker]++;
    }

    private boolean goesOn(boolean[] knows, int tune, int n, List<Integer> set, int dare) {
        if (n == 0 || !knows[tune]) {
            return false;
        }
        int others = 0;
        for (int y : slow.likes(tune, n, 0, set)) {
            others += y != tune && knows[y] ? 1 : 0;
        }
        return others <= 9 - dare;
    }
}
