import java.util.ArrayList;
import java.util.List;

/** A studio drawn by a seed, and plain, slow reckonings of what the document says of it. */
final class Slow {
    final int[][][] tunes;
    final List<List<Integer>> clues = new ArrayList<>();
    final int[][] knows;
    final int[] dares;
    final int from;
    final NameNotes notes;
    private long state;

    Slow(int seed) {
        state = seed * 7919L + 17;
        tunes = new int[1 + draw(9)][][];
        StringBuilder text = new StringBuilder();
        for (int x = 0; x < tunes.length; x++) {
            drawTune(x);
            text.append("tune ").append(tuneName(x));
            for (int[] note : tunes[x]) {
                text.append(' ').append(note[0]).append(' ').append(note[1]);
            }
            text.append(';');
        }
        int many = 1 + draw(6);
        for (int c = 0; c < many; c++) {
            text.append("clue ").append(clueName(c));
            for (int x : drawClue()) {
                text.append(' ').append(tuneName(x));
            }
            text.append(';');
        }
        knows = new int[2 + draw(4)][tunes.length];
        dares = new int[knows.length];
        for (int p = 0; p < knows.length; p++) {
            drawPerson(p, text);
        }
        from = draw(2) == 0 ? 9 : 1 + draw(9);
        if (from < 9) {
            text.append("from ").append(from).append(';');
        }
        notes = Check.told(text.toString());
    }

    /** A studio as it is told. */
    Slow(int[][][] tunes, int[][] clues, int[][] knows, int[] dares, int from) {
        this.tunes = tunes;
        this.knows = knows;
        this.dares = dares;
        this.from = from;
        StringBuilder text = new StringBuilder();
        for (int x = 0; x < tunes.length; x++) {
            text.append("tune ").append(tuneName(x));
            for (int[] note : tunes[x]) {
                text.append(' ').append(note[0]).append(' ').append(note[1]);
            }
            text.append(';');
        }
        for (int c = 0; c < clues.length; c++) {
            List<Integer> clue = new ArrayList<>();
            text.append("clue ").append(clueName(c));
            for (int x : clues[c]) {
                clue.add(x);
                text.append(' ').append(tuneName(x));
            }
            this.clues.add(clue);
            text.append(';');
        }
        for (int p = 0; p < knows.length; p++) {
            text.append("person ").append(personName(p)).append(";dare ").append(personName(p)).append(' ')
                    .append(dares[p]).append(';');
            for (int x = 0; x < tunes.length; x++) {
                if (knows[p][x] > 0) {
                    text.append("knows ").append(personName(p)).append(' ').append(tuneName(x)).append(' ')
                            .append(knows[p][x]).append(';');
                }
            }
        }
        notes = Check.told(text.append("from ").append(from).append(';').toString());
    }

    static String tuneName(int x) {
        return "t" + (char) ('a' + x);
    }

    static String clueName(int c) {
        return "c" + (char) ('a' + c);
    }

    static String personName(int p) {
        return "p" + (char) ('a' + p);
    }

    int draw(int n) {
        state = state * 6364136223846793005L + 1442695040888963407L;
        return (int) ((state >>> 33) % n);
    }

    private void drawTune(int x) {
        int size = 1 + (draw(4) == 0 ? draw(9) : draw(4));
        tunes[x] = new int[size][];
        for (int i = 0; i < size; i++) {
            tunes[x][i] = new int[] {draw(3), 1 + draw(2)};
        }
        if (x > 0 && draw(2) == 0) {
            int[][] other = tunes[draw(x)];
            int kept = 1 + (draw(2) == 0 ? other.length - 1 : draw(other.length));
            for (int i = 0; i < size && i < kept; i++) {
                tunes[x][i] = other[i].clone();
            }
        }
    }

    private List<Integer> drawClue() {
        List<Integer> clue = new ArrayList<>();
        for (int x = 0; x < tunes.length; x++) {
            if (draw(3) > 0) {
                clue.add(draw(clue.size() + 1), x);
            }
        }
        if (clue.isEmpty()) {
            clue.add(draw(tunes.length));
        }
        clues.add(clue);
        return clue;
    }

    // A studio has 900 bytes at most, so not all are told.
    private void drawPerson(int p, StringBuilder text) {
        text.append("person ").append(personName(p)).append(';');
        boolean able = draw(3) == 0;
        for (int x = 0; x < tunes.length; x++) {
            if ((able || draw(3) > 0) && text.length() < 820) {
                knows[p][x] = draw(able ? 8 : 4) != 0 == able ? 9 : draw(10);
                text.append("knows ").append(personName(p)).append(' ').append(tuneName(x)).append(' ')
                        .append(knows[p][x]).append(';');
            }
        }
        dares[p] = 5;
        if (draw(2) == 0 && text.length() < 820) {
            dares[p] = draw(10);
            text.append("dare ").append(personName(p)).append(' ').append(dares[p]).append(';');
        }
    }

    int bits(List<Integer> set) {
        int bits = 0;
        for (int x : set) {
            bits |= 1 << x;
        }
        return bits;
    }

    List<Integer> all() {
        List<Integer> all = new ArrayList<>();
        for (int x = 0; x < tunes.length; x++) {
            all.add(x);
        }
        return all;
    }

    List<Integer> setOf(int c) {
        return c < 0 ? all() : clues.get(c);
    }

    boolean like(int x, int y, int n, int how) {
        for (int i = 0; i < n; i++) {
            boolean mine = i < tunes[x].length;
            boolean yours = i < tunes[y].length;
            if (mine != yours) {
                return false;
            }
            if (mine && !likeNote(x, y, i, how)) {
                return false;
            }
        }
        return true;
    }

    private boolean likeNote(int x, int y, int i, int how) {
        int[] mine = tunes[x][i];
        int[] yours = tunes[y][i];
        switch (how) {
            case 0:
                return mine[0] == yours[0] && mine[1] == yours[1];
            case 1:
                return mine[0] == yours[0];
            case 2:
                return mine[1] == yours[1];
            default:
                return mine[0] - tunes[x][0][0] == yours[0] - tunes[y][0][0];
        }
    }

    List<Integer> likes(int x, int n, int how, List<Integer> set) {
        List<Integer> found = new ArrayList<>();
        for (int y : set) {
            if (like(x, y, n, how)) {
                found.add(y);
            }
        }
        return found;
    }

    /** All that she may know of the like ones is gone through, one by one. */
    Ratio named(int[] known, int x, int n, List<Integer> set) {
        List<Integer> likes = likes(x, n, 0, set);
        Ratio sum = Ratio.ZERO;
        for (int some = 0; some < 1 << likes.size(); some++) {
            Ratio chance = Ratio.ONE;
            boolean mine = false;
            for (int i = 0; i < likes.size(); i++) {
                int k = known[likes.get(i)];
                boolean in = (some >> i & 1) == 1;
                chance = chance.times(Ratio.of(in ? k : 9 - k, 9));
                mine |= in && likes.get(i) == x;
            }
            if (mine) {
                sum = sum.plus(chance.times(Ratio.of(1, Integer.bitCount(some))));
            }
        }
        return sum;
    }

    Ratio odds(int[] known, int n, List<Integer> set) {
        Ratio sum = Ratio.ZERO;
        for (int x : set) {
            sum = sum.plus(named(known, x, n, set));
        }
        return sum.times(Ratio.of(1, set.size()));
    }

    Ratio[] oddsByNotes(int p, int c) {
        Ratio[] odds = new Ratio[10];
        for (int n = 1; n <= 9; n++) {
            odds[n] = odds(knows[p], n, setOf(c));
        }
        return odds;
    }
}
