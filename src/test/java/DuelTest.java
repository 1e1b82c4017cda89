/** Promises 18 to 22 and 25 to 28: two who bid down, each with what is best, or against a rule. */
public final class DuelTest {
    private static final int RUNS = 150;

    public static void main(String[] args) {
        byHand();
        wrongInputs();
        for (int seed = 300; seed < 300 + RUNS; seed++) {
            Slow slow = new Slow(seed);
            int p = slow.draw(slow.knows.length);
            int q = (p + 1 + slow.draw(slow.knows.length - 1)) % slow.knows.length;
            clues(slow, p, q);
        }
        Check.end();
    }

    private static NameNotes small() {
        return Check.told("tune x 5 2 7 1 9 1;tune y 5 2 7 1 4 3;tune z 6 2 8 1;clue cee x y;clue d x y z;person anna;person b;"
                + "knows anna x 9;knows anna y 9;knows b x 3;dare b 2;from 4;");
    }

    private static void byHand() {
        NameNotes notes = small();
        Check.due("best at first", notes.best(0, 1, 0, 0), 4);
        Check.due("best behind a bid", notes.best(1, 0, 4, 0), 3);
        Check.due("best behind 1", notes.best(1, 0, 1, 0), 0);
        Check.due("a bid above 'from' may be asked about", notes.best(1, 0, 9, 0), 8);
        Ratio.of(5, 6).due("worth", notes.worth(0, 1, 4, 0, 0), notes.worth(0, 1, 4, 0, 1));
        Check.due("reply", notes.reply(0, 1, 4, 0), 3);
        Ratio.ONE.due("gains", notes.gains(0, 1, 4, 0, 0), notes.gains(0, 1, 4, 0, 1));
        Check.due("fair", notes.fair(0, 1, 0), 1);
        Check.due("fair the other way round", notes.fair(1, 0, 0), -1);
        Check.due("play", notes.play(0, 1, 0), 30);
        Check.due("play", Check.text(notes), "clue cee;anna 4;b 3;anna name;");
        Check.due("low", notes.low(0, 1, 0), 3);
    }

    private static void wrongInputs() {
        NameNotes notes = small();
        notes.write(0);
        for (int wrong : new int[] {-1, 10, Integer.MAX_VALUE, Integer.MIN_VALUE}) {
            none(notes, wrong, 1, 0, 0);
            none(notes, 0, wrong, 0, 0);
            none(notes, 0, 1, wrong, 0);
            none(notes, 0, 1, 0, wrong);
            Check.throwsNoSuch("worth, no such part", () -> notes.worth(0, 1, 0, 0, wrong));
            Check.throwsNoSuch("gains, no such part", () -> notes.gains(0, 1, 0, 0, wrong));
            noneByClue(notes, wrong, 1, 0);
            noneByClue(notes, 0, wrong, 0);
            noneByClue(notes, 0, 1, wrong);
            Check.due("lowest, nobody", notes.lowest(wrong, 1), -1);
            Check.due("lowest, nobody", notes.lowest(0, wrong), -1);
            Check.due("closest, nobody", notes.closest(wrong, 1), -1);
            Check.due("closest, nobody", notes.closest(0, wrong), -1);
        }
        none(notes, 1, 1, 0, 0);
        noneByClue(notes, 1, 1, 0);
        Check.due("lowest alone", notes.lowest(0, 0), -1);
        Check.due("closest alone", notes.closest(0, 0), -1);
        Check.due("the text made last stays", Check.text(notes), "5 2 7 1 9 1");
        NameNotes bare = Check.told("person a;person b;");
        Check.due("lowest of no clues", bare.lowest(0, 1), -1);
        Check.due("closest of no clues", bare.closest(0, 1), -1);
    }

    private static void none(NameNotes notes, int p, int q, int n, int c) {
        Check.due("best", notes.best(p, q, n, c), -1);
        Check.due("reply", notes.reply(p, q, n, c), -1);
        Check.throwsNoSuch("worth", () -> notes.worth(p, q, n, c, 0));
        Check.throwsNoSuch("gains", () -> notes.gains(p, q, n, c, 0));
    }

    private static void noneByClue(NameNotes notes, int p, int q, int c) {
        Check.due("fair", notes.fair(p, q, c), -1);
        Check.due("low", notes.low(p, q, c), -1);
        Check.due("play", notes.play(p, q, c), -1);
    }

    private static void clues(Slow slow, int p, int q) {
        int lowest = -1;
        int least = 10;
        int closest = -1;
        Ratio nearest = Ratio.ONE;
        for (int c = 0; c < slow.clues.size(); c++) {
            Ratio[] mine = slow.oddsByNotes(p, c);
            Ratio[] yours = slow.oddsByNotes(q, c);
            bids(slow, p, q, c, mine, yours);
            int low = plays(slow, p, q, c, mine, yours);
            lowest = low < least ? c : lowest;
            least = Math.min(low, least);
            Ratio first = best(mine, yours, 0, slow.from)[1];
            Ratio second = best(yours, mine, 0, slow.from)[1].rest();
            Ratio half = Ratio.of(1, 2);
            int fair = first.compare(half) == second.compare(half) ? first.compare(half) : 0;
            Check.due("fair", slow.notes.fair(p, q, c), fair);
            Ratio away = first.compare(half) > 0 ? first.less(half) : half.less(first);
            closest = away.compare(nearest) < 0 ? c : closest;
            nearest = away.compare(nearest) < 0 ? away : nearest;
        }
        Check.due("lowest", slow.notes.lowest(p, q), lowest);
        Check.due("closest", slow.notes.closest(p, q), closest);
    }

    private static void bids(Slow slow, int p, int q, int c, Ratio[] mine, Ratio[] yours) {
        for (int n = 0; n <= 9; n++) {
            Ratio[] best = best(mine, yours, n, slow.from);
            Check.due("best", slow.notes.best(p, q, n, c), best[0].above().intValue());
            best[1].due("worth", slow.notes.worth(p, q, n, c, 0), slow.notes.worth(p, q, n, c, 1));
            Ratio[] reply = reply(mine, yours, n, slow.from, slow.dares[q]);
            Check.due("reply", slow.notes.reply(p, q, n, c), reply[0].above().intValue());
            reply[1].due("gains", slow.notes.gains(p, q, n, c, 0), slow.notes.gains(p, q, n, c, 1));
        }
    }

    private static int plays(Slow slow, int p, int q, int c, Ratio[] mine, Ratio[] yours) {
        StringBuilder text = new StringBuilder("clue " + Slow.clueName(c) + ";");
        int low = 0;
        boolean first = true;
        int move = best(mine, yours, 0, slow.from)[0].above().intValue();
        while (move > 0) {
            text.append(Slow.personName(first ? p : q)).append(' ').append(move).append(';');
            low = move;
            first = !first;
            move = best(first ? mine : yours, first ? yours : mine, move, slow.from)[0].above().intValue();
        }
        text.append(Slow.personName(first ? p : q)).append(" name;");
        Check.due("play", slow.notes.play(p, q, c), text.length());
        Check.due("play", Check.text(slow.notes), text.toString());
        Check.due("low", slow.notes.low(p, q, c), low);
        Check.due("an evening as it was played", Check.evening(slow.notes, text.toString()), -1);
        Check.due("its bid", slow.notes.heard(1), low);
        return low;
    }

    /** What who speaks does, and by what odds the point is hers. */
    private static Ratio[] best(Ratio[] mine, Ratio[] yours, int n, int from) {
        Ratio[] found = n > 0 ? new Ratio[] {Ratio.ZERO, yours[n].rest()} : null;
        for (int bid = n > 0 ? n - 1 : from; bid >= 1; bid--) {
            Ratio value = best(yours, mine, bid, from)[1].rest();
            if (found == null || value.compare(found[1]) > 0) {
                found = new Ratio[] {Ratio.of(bid, 1), value};
            }
        }
        return found;
    }

    private static Ratio[] reply(Ratio[] mine, Ratio[] yours, int n, int from, int dare) {
        Ratio[] found = n > 0 ? new Ratio[] {Ratio.ZERO, yours[n].rest()} : null;
        for (int bid = n > 0 ? n - 1 : from; bid >= 1; bid--) {
            boolean goesOn = bid > 1 && yours[bid - 1].compare(Ratio.of(dare, 9)) >= 0;
            Ratio value = goesOn ? reply(mine, yours, bid - 1, from, dare)[1] : mine[bid];
            if (found == null || value.compare(found[1]) > 0) {
                found = new Ratio[] {Ratio.of(bid, 1), value};
            }
        }
        return found;
    }
}
