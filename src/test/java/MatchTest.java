/** Promises 35 to 37: the odds of a match by its score, and when to be bold. */
public final class MatchTest {
    public static void main(String[] args) {
        NameNotes notes = new NameNotes();
        for (int own = 0; own < 3; own++) {
            for (int other = 0; other < 3; other++) {
                for (int k = 0; k <= 9; k++) {
                    Ratio match = match(own, other, k);
                    match.due("match", notes.match(own, other, k, 0), notes.match(own, other, k, 1));
                    bolder(notes, own, other, k);
                }
            }
        }
        Check.due("bold, if it is sure", notes.bold(0, 2, 5, 9), 1);
        Check.due("not bold, if it is alike", notes.bold(2, 2, 4, 4), 0);
        wrongInputs(notes);
        Check.end();
    }

    private static void bolder(NameNotes notes, int own, int other, int k) {
        for (int j = 0; j <= 9; j++) {
            Ratio plain = plain(own, other, k, j);
            Ratio bold = bold(own, other, k, j);
            boolean better = bold.compare(plain) > 0;
            Check.due("bold", notes.bold(own, other, k, j), better ? 1 : 0);
            Ratio most = better ? bold : plain;
            most.due("bolder", notes.bolder(own, other, k, j, 0), notes.bolder(own, other, k, j, 1));
        }
    }

    private static Ratio match(int own, int other, int k) {
        if (own >= 3 || other >= 3) {
            return own >= 3 ? Ratio.ONE : Ratio.ZERO;
        }
        Ratio won = Ratio.of(k, 9);
        return won.times(match(own + 1, other, k)).plus(won.rest().times(match(own, other + 1, k)));
    }

    private static Ratio most(int own, int other, int k, int j) {
        if (own >= 3 || other >= 3) {
            return own >= 3 ? Ratio.ONE : Ratio.ZERO;
        }
        Ratio plain = plain(own, other, k, j);
        Ratio bold = bold(own, other, k, j);
        return bold.compare(plain) > 0 ? bold : plain;
    }

    private static Ratio plain(int own, int other, int k, int j) {
        Ratio won = Ratio.of(k, 9);
        return won.times(most(own + 1, other, k, j)).plus(won.rest().times(most(own, other + 1, k, j)));
    }

    private static Ratio bold(int own, int other, int k, int j) {
        Ratio won = Ratio.of(j, 9);
        return won.times(most(own + 2, other, k, j)).plus(won.rest().times(most(own, other + 2, k, j)));
    }

    private static void wrongInputs(NameNotes notes) {
        for (int wrong : new int[] {-1, 10, Integer.MAX_VALUE, Integer.MIN_VALUE}) {
            Check.throwsNoSuch("match, no score", () -> notes.match(wrong, 0, 1, 0));
            Check.throwsNoSuch("match, no score", () -> notes.match(0, wrong, 1, 0));
            Check.throwsNoSuch("match, no ninths", () -> notes.match(0, 0, wrong, 0));
            Check.throwsNoSuch("match, no part", () -> notes.match(0, 0, 1, wrong));
            Check.due("bold, no score", notes.bold(wrong, 0, 1, 1), -1);
            Check.due("bold, no score", notes.bold(0, wrong, 1, 1), -1);
            Check.due("bold, no ninths", notes.bold(0, 0, wrong, 1), -1);
            Check.due("bold, no ninths", notes.bold(0, 0, 1, wrong), -1);
            Check.throwsNoSuch("bolder, no score", () -> notes.bolder(wrong, 0, 1, 1, 0));
            Check.throwsNoSuch("bolder, no score", () -> notes.bolder(0, wrong, 1, 1, 0));
            Check.throwsNoSuch("bolder, no ninths", () -> notes.bolder(0, 0, wrong, 1, 0));
            Check.throwsNoSuch("bolder, no ninths", () -> notes.bolder(0, 0, 1, wrong, 0));
            Check.throwsNoSuch("bolder, no part", () -> notes.bolder(0, 0, 1, 1, wrong));
        }
        Check.throwsNoSuch("match from three", () -> notes.match(3, 0, 1, 0));
        Check.throwsNoSuch("match from three", () -> notes.match(0, 3, 1, 0));
        Check.due("bold from three", notes.bold(3, 0, 1, 1), -1);
        Check.throwsNoSuch("bolder from three", () -> notes.bolder(0, 3, 1, 1, 0));
    }
}
