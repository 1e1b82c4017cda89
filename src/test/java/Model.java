import java.util.ArrayDeque;
import java.util.ArrayList;
import java.util.Collection;
import java.util.Deque;
import java.util.HashSet;
import java.util.List;
import java.util.NoSuchElementException;
import java.util.Set;
import java.util.SortedSet;
import java.util.TreeSet;

/**
 * The document written a second time, for plainness alone, with the names of its face: what a whole run of calls is
 * compared with. It is as slow as it likes, and keeps nothing that it can reckon.
 */
final class Model {
    private static final int NONE = -1;

    /** What persons know and dare. */
    private record Known(int[][] knows, int[] dares) {
        Known copy() {
            int[][] rows = new int[knows.length][];
            for (int p = 0; p < rows.length; p++) {
                rows[p] = knows[p].clone();
            }
            return new Known(rows, dares.clone());
        }
    }

    private record Image(Told told, Known known, Reader.Saying saying) {
    }

    private record Heard(Told told, int clue, int why, int bid, int bidder, int namer, int speaker) {
    }

    /** What who speaks does, and by what odds the point is hers. */
    private record Move(int bid, Ratio worth) {
    }

    private Told told = new Told();
    private Known known = new Known(new int[0][0], new int[0]);
    private Reader.Saying saying;
    private String tape = "";
    private int fault;
    private final Deque<Known> past = new ArrayDeque<>();
    private final Image[] images = new Image[2];
    private Heard heard;
    private int[] night;
    private String text = "";

    // ---- what is there

    private boolean isTune(int x) {
        return x >= 0 && x < told.tunes.size();
    }

    private boolean isNote(int x, int i) {
        return isTune(x) && i >= 0 && i < told.tunes.get(x).size();
    }

    private boolean isClue(int c) {
        return c >= 0 && c < told.clues.size();
    }

    private boolean isChoice(int c) {
        return c == NONE || isClue(c);
    }

    private boolean isPerson(int p) {
        return p >= 0 && p < known.knows.length;
    }

    private boolean areTwo(int p, int q) {
        return isPerson(p) && isPerson(q) && p != q;
    }

    private static boolean within(int n, int least, int most) {
        return n >= least && n <= most;
    }

    private static void need(boolean such) {
        if (!such) {
            throw new NoSuchElementException();
        }
    }

    private static long part(Ratio odds, int what) {
        need(within(what, 0, 1));
        return (what == 0 ? odds.above() : odds.below()).longValueExact();
    }

    private SortedSet<Integer> left(int c) {
        return c == NONE ? told.all() : told.clues.get(c);
    }

    private static int bits(Collection<Integer> set) {
        int bits = 0;
        for (int x : set) {
            bits |= 1 << x;
        }
        return bits;
    }

    private static SortedSet<Integer> set(int bits) {
        SortedSet<Integer> set = new TreeSet<>();
        for (int x = 0; x < 31; x++) {
            if ((bits >> x & 1) == 1) {
                set.add(x);
            }
        }
        return set;
    }

    // ---- tape and studio

    int feed(int a, int b, int c, int d, int e) {
        if (tape.length() + 20 > 940) {
            return NONE;
        }
        StringBuilder more = new StringBuilder(tape);
        for (int four : new int[] {a, b, c, d, e}) {
            more.append((char) (four >>> 24)).append((char) (four >>> 16 & 255)).append((char) (four >>> 8 & 255))
                    .append((char) (four & 255));
        }
        tape = more.toString();
        return tape.length();
    }

    boolean end(int n) {
        if (!within(n, 0, tape.length())) {
            return false;
        }
        tape = tape.substring(0, n);
        return true;
    }

    private String takeTape() {
        String taken = tape;
        tape = "";
        fault = 0;
        return taken;
    }

    private int faulty(Reader.Fault found, int less) {
        fault = found.kind;
        return less - found.place;
    }

    int studio() {
        try {
            told = Reader.studio(takeTape());
        } catch (Reader.Fault e) {
            return faulty(e, -1);
        }
        int[][] knows = new int[told.personNames.size()][told.tunes.size()];
        int[] dares = new int[knows.length];
        for (int p = 0; p < knows.length; p++) {
            dares[p] = told.dare(p);
            for (int x = 0; x < knows[p].length; x++) {
                knows[p][x] = told.knows(p, x);
            }
        }
        known = new Known(knows, dares);
        saying = null;
        past.clear();
        return told.lines;
    }

    int fault() {
        return fault;
    }

    int note(int x, int i, int what) {
        return isNote(x, i) && within(what, 0, 1) ? told.tunes.get(x).get(i)[what] : NONE;
    }

    int tune(int x, int what) {
        if (!isTune(x) || !within(what, 0, 3)) {
            return NONE;
        }
        List<int[]> notes = told.tunes.get(x);
        switch (what) {
            case 0:
                return notes.size();
            case 1:
                return notes.stream().mapToInt(note -> note[0]).max().orElseThrow();
            case 2:
                return notes.stream().mapToInt(note -> note[0]).min().orElseThrow();
            default:
                return notes.stream().mapToInt(note -> note[1]).sum();
        }
    }

    int when(int x, int i) {
        return isNote(x, i) ? told.tunes.get(x).subList(0, i).stream().mapToInt(note -> note[1]).sum() : NONE;
    }

    int clue(int c) {
        return isClue(c) ? bits(left(c)) : NONE;
    }

    int knows(int p, int x) {
        return isPerson(p) && isTune(x) ? known.knows[p][x] : NONE;
    }

    int dare(int p) {
        return isPerson(p) ? known.dares[p] : NONE;
    }

    // ---- like tunes

    /** What the first n notes have in them of a kind, as a text. */
    private String beginning(int x, int n, int how) {
        List<int[]> notes = told.tunes.get(x);
        StringBuilder signs = new StringBuilder();
        for (int[] note : notes.subList(0, Math.min(n, notes.size()))) {
            int step = note[0] - notes.get(0)[0];
            signs.append(how == 3 ? step : how == 2 ? "" : note[0]).append('/').append(how == 0 || how == 2 ? note[1] : "").append(' ');
        }
        return signs.toString();
    }

    boolean like(int x, int y, int n, int how) {
        return beginning(x, n, how).equals(beginning(y, n, how));
    }

    private SortedSet<Integer> likes(int x, int n, int how, Collection<Integer> left) {
        SortedSet<Integer> likes = new TreeSet<>();
        for (int y : left) {
            if (like(x, y, n, how)) {
                likes.add(y);
            }
        }
        return likes;
    }

    int begins(int x, int n, int how, int c) {
        boolean such = isTune(x) && within(n, 1, 9) && within(how, 0, 3) && isChoice(c);
        return such ? bits(likes(x, n, how, left(c))) : NONE;
    }

    int parts(int n, int how, int c) {
        if (!within(n, 1, 9) || !within(how, 0, 3) || !isChoice(c)) {
            return NONE;
        }
        Set<String> parts = new HashSet<>();
        for (int x : left(c)) {
            parts.add(beginning(x, n, how));
        }
        return parts.size();
    }

    int enough(int x, int how, int c) {
        if (!isTune(x) || !within(how, 0, 3) || !isChoice(c) || !left(c).contains(x)) {
            return NONE;
        }
        for (int n = 1; n <= 9; n++) {
            if (likes(x, n, how, left(c)).size() == 1) {
                return n;
            }
        }
        return NONE;
    }

    int hardest(int how, int c) {
        if (!within(how, 0, 3) || !isClue(c)) {
            return NONE;
        }
        int found = NONE;
        int most = 0;
        for (int x : left(c)) {
            int notes = enough(x, how, c) == NONE ? 10 : enough(x, how, c);
            if (notes > most) {
                found = x;
                most = notes;
            }
        }
        return found;
    }

    int twins(int n, int how, int c, int k) {
        if (!within(n, 1, 9) || !within(how, 0, 3) || !isChoice(c)) {
            return NONE;
        }
        List<Integer> pairs = new ArrayList<>();
        for (int x : left(c)) {
            for (int y : left(c)) {
                if (x < y && like(x, y, n, how)) {
                    pairs.add(10 * x + y);
                }
            }
        }
        return k == NONE ? pairs.size() : within(k, 0, pairs.size() - 1) ? pairs.get(k) : NONE;
    }

    int alike(int x, int y, int how) {
        if (!isTune(x) || !isTune(y) || !within(how, 0, 3)) {
            return NONE;
        }
        int most = 9;
        while (most > 0 && !like(x, y, most, how)) {
            most--;
        }
        return most;
    }

    int apart(int x, int y) {
        return isTune(x) && isTune(y) ? apart(told.tunes.get(x), told.tunes.get(y)) : NONE;
    }

    /** Row by row: how far each beginning of the one is from the notes of the other one so far. */
    private static int apart(List<int[]> one, List<int[]> other) {
        int[] row = new int[one.size() + 1];
        for (int i = 0; i < row.length; i++) {
            row[i] = i;
        }
        for (int[] note : other) {
            int[] following = new int[row.length];
            following[0] = row[0] + 1;
            for (int i = 1; i < row.length; i++) {
                int[] mine = one.get(i - 1);
                boolean same = mine[0] == note[0] && mine[1] == note[1];
                following[i] = Math.min(row[i - 1] + (same ? 0 : 1), 1 + Math.min(row[i], following[i - 1]));
            }
            row = following;
        }
        return row[one.size()];
    }

    int nearest(int x, int c) {
        if (!isTune(x) || !isChoice(c)) {
            return NONE;
        }
        int found = NONE;
        for (int y : left(c)) {
            if (y != x && (found == NONE || apart(x, y) < apart(x, found))) {
                found = y;
            }
        }
        return found;
    }

    int rank(int k, int what) {
        if (!within(what, 0, 3) || !isTune(k)) {
            return NONE;
        }
        List<Integer> order = new ArrayList<>(told.all());
        order.sort((x, y) -> tune(x, what) - tune(y, what));
        return order.get(k);
    }

    int commonest() {
        int[] times = new int[25];
        for (List<int[]> notes : told.tunes) {
            notes.forEach(note -> times[note[0]]++);
        }
        int found = 0;
        for (int pitch = 0; pitch < times.length; pitch++) {
            found = times[pitch] > times[found] ? pitch : found;
        }
        return told.tunes.isEmpty() ? NONE : found;
    }

    int cover() {
        for (int many = 0; many <= told.clues.size(); many++) {
            for (int some = 0; some < 1 << told.clues.size(); some++) {
                Set<Integer> together = new HashSet<>();
                set(some).forEach(c -> together.addAll(left(c)));
                if (Integer.bitCount(some) == many && together.equals(told.all())) {
                    return some;
                }
            }
        }
        return NONE;
    }

    // ---- odds

    /** Each of the other like ones is known or not: all cases, one by one; 2520 can be shared by up to nine. */
    private Ratio right(int[] knows, int x, int n, Collection<Integer> left) {
        List<Integer> others = new ArrayList<>(likes(x, n, 0, left));
        others.remove(Integer.valueOf(x));
        long sum = 0;
        long whole = 9 * 2520;
        for (int some = 0; some < 1 << others.size(); some++) {
            long weight = 2520 / (1 + Integer.bitCount(some));
            for (int i = 0; i < others.size(); i++) {
                int k = knows[others.get(i)];
                weight *= (some >> i & 1) == 1 ? k : 9 - k;
            }
            sum += weight;
        }
        for (int i = 0; i < others.size(); i++) {
            whole *= 9;
        }
        return Ratio.of(knows[x] * sum, whole);
    }

    private Ratio mean(int[] knows, int n, Collection<Integer> left) {
        Ratio sum = Ratio.ZERO;
        for (int x : left) {
            sum = sum.plus(right(knows, x, n, left));
        }
        return sum.times(Ratio.of(1, left.size()));
    }

    private Ratio mean(int p, int n, int c) {
        return mean(known.knows[p], n, left(c));
    }

    private static boolean reaches(Ratio odds, int k) {
        return odds.compare(Ratio.of(k, 9)) >= 0;
    }

    private boolean isNamed(int p, int x, int n, int c) {
        return isPerson(p) && within(n, 1, 9) && isClue(c) && left(c).contains(x);
    }

    long named(int p, int x, int n, int c, int what) {
        need(isNamed(p, x, n, c));
        return part(right(known.knows[p], x, n, left(c)), what);
    }

    long odds(int p, int n, int c, int what) {
        need(isPerson(p) && within(n, 1, 9) && isClue(c));
        return part(mean(p, n, c), what);
    }

    int needs(int p, int k, int c) {
        if (!isPerson(p) || !within(k, 0, 9) || !isClue(c)) {
            return NONE;
        }
        for (int n = 1; n <= 9; n++) {
            if (reaches(mean(p, n, c), k)) {
                return n;
            }
        }
        return NONE;
    }

    long held(int p, int x, int n, int c, int right, int what) {
        need(isNamed(p, x, n, c) && within(right, 0, 1));
        Ratio named = right(known.knows[p], x, n, left(c));
        Ratio both = right == 1 ? named : Ratio.of(known.knows[p][x], 9).less(named);
        Ratio heard = right == 1 ? named : named.rest();
        need(heard.above().signum() > 0);
        return part(both.over(heard), what);
    }

    long among(int p, int n, int set, int what) {
        need(isPerson(p) && within(n, 1, 9) && set > 0 && told.all().containsAll(set(set)));
        return part(mean(known.knows[p], n, set(set)), what);
    }

    int ablest(int n, int c) {
        if (!within(n, 1, 9) || !isClue(c)) {
            return NONE;
        }
        int found = NONE;
        for (int p = 0; p < known.knows.length; p++) {
            if (found == NONE || mean(p, n, c).compare(mean(found, n, c)) > 0) {
                found = p;
            }
        }
        return found;
    }

    /** Her odds, if she knew some tunes for sure. */
    private Ratio taught(int p, int n, int c, int sure) {
        int[] knows = known.knows[p].clone();
        set(sure).forEach(x -> knows[x] = 9);
        return mean(knows, n, left(c));
    }

    int learn(int p, int n, int c, int k) {
        if (!isPerson(p) || !within(n, 1, 9) || !isClue(c) || !within(k, 0, 9)) {
            return NONE;
        }
        int found = 0;
        Ratio most = mean(p, n, c);
        for (int many = 1; many <= k; many++) {
            for (int sure = 0; sure <= clue(c); sure++) {
                if (Integer.bitCount(sure) == many && left(c).containsAll(set(sure)) && taught(p, n, c, sure).compare(most) > 0) {
                    found = sure;
                    most = taught(p, n, c, sure);
                }
            }
        }
        return found;
    }

    int lessons(int p, int n, int c, int k) {
        if (!isPerson(p) || !within(n, 1, 9) || !isClue(c) || !within(k, 0, 9)) {
            return NONE;
        }
        for (int many = 0; many <= 9; many++) {
            for (int sure = 0; sure <= clue(c); sure++) {
                if (Integer.bitCount(sure) == many && left(c).containsAll(set(sure)) && reaches(taught(p, n, c, sure), k)) {
                    return sure;
                }
            }
        }
        return NONE;
    }

    // ---- bidding

    private boolean isDuel(int p, int q, int n, int c) {
        return areTwo(p, q) && within(n, 0, 9) && isClue(c);
    }

    /** By how many notes, 1 to 9. */
    private Ratio[] means(int p, int c) {
        Ratio[] means = new Ratio[10];
        for (int n = 1; n <= 9; n++) {
            means[n] = mean(p, n, c);
        }
        return means;
    }

    private int most(int n) {
        return n == 0 ? told.from() : n - 1;
    }

    private Move best(Ratio[] mine, Ratio[] hers, int n) {
        Move found = n == 0 ? null : new Move(0, hers[n].rest());
        for (int bid = most(n); bid > 0; bid--) {
            Ratio worth = best(hers, mine, bid).worth.rest();
            found = found == null || worth.compare(found.worth) > 0 ? new Move(bid, worth) : found;
        }
        return found;
    }

    private Move best(int p, int q, int n, int c, boolean such) {
        need(such);
        return best(means(p, c), means(q, c), n);
    }

    private Move against(Ratio[] mine, Ratio[] hers, int n, int dare) {
        Move found = n == 0 ? null : new Move(0, hers[n].rest());
        for (int bid = most(n); bid > 0; bid--) {
            boolean goesOn = bid > 1 && reaches(hers[bid - 1], dare);
            Ratio worth = goesOn ? against(mine, hers, bid - 1, dare).worth : mine[bid];
            found = found == null || worth.compare(found.worth) > 0 ? new Move(bid, worth) : found;
        }
        return found;
    }

    int best(int p, int q, int n, int c) {
        return isDuel(p, q, n, c) ? best(p, q, n, c, true).bid : NONE;
    }

    long worth(int p, int q, int n, int c, int what) {
        return part(best(p, q, n, c, isDuel(p, q, n, c)).worth, what);
    }

    int reply(int p, int q, int n, int c) {
        return isDuel(p, q, n, c) ? against(means(p, c), means(q, c), n, known.dares[q]).bid : NONE;
    }

    long gains(int p, int q, int n, int c, int what) {
        need(isDuel(p, q, n, c));
        return part(against(means(p, c), means(q, c), n, known.dares[q]).worth, what);
    }

    int fair(int p, int q, int c) {
        if (!isDuel(p, q, 0, c)) {
            return NONE;
        }
        Ratio even = Ratio.of(1, 2);
        int first = best(p, q, 0, c, true).worth.compare(even);
        int second = best(q, p, 0, c, true).worth.rest().compare(even);
        return Integer.signum(first) == Integer.signum(second) ? Integer.signum(first) : 0;
    }

    /** All that both do, the first one ahead, down to NAME IT. */
    private List<Integer> course(int p, int q, int c) {
        List<Integer> course = new ArrayList<>();
        int bid = 0;
        do {
            bid = course.size() % 2 == 0 ? best(p, q, bid, c) : best(q, p, bid, c);
            course.add(bid);
        } while (bid > 0);
        return course;
    }

    int low(int p, int q, int c) {
        if (!isDuel(p, q, 0, c)) {
            return NONE;
        }
        List<Integer> course = course(p, q, c);
        return course.get(course.size() - 2);
    }

    int lowest(int p, int q) {
        int found = NONE;
        for (int c = 0; areTwo(p, q) && c < told.clues.size(); c++) {
            found = found == NONE || low(p, q, c) < low(p, q, found) ? c : found;
        }
        return found;
    }

    private Ratio unevenness(int p, int q, int c) {
        Ratio away = best(p, q, 0, c, true).worth.less(Ratio.of(1, 2));
        return away.compare(Ratio.ZERO) < 0 ? Ratio.ZERO.less(away) : away;
    }

    int closest(int p, int q) {
        int found = NONE;
        for (int c = 0; areTwo(p, q) && c < told.clues.size(); c++) {
            found = found == NONE || unevenness(p, q, c).compare(unevenness(p, q, found)) < 0 ? c : found;
        }
        return found;
    }

    int play(int p, int q, int c) {
        if (!isDuel(p, q, 0, c)) {
            return NONE;
        }
        StringBuilder lines = new StringBuilder("clue " + told.clueNames.get(c) + ";");
        int who = p;
        for (int bid : course(p, q, c)) {
            lines.append(told.personNames.get(who)).append(' ').append(bid == 0 ? "name" : "" + bid).append(';');
            who = p + q - who;
        }
        text = lines.toString();
        return text.length();
    }

    // ---- changes

    boolean teach(int p, int x, int k) {
        if (!isPerson(p) || !isTune(x) || !within(k, 0, 9) || knows(p, x) == k) {
            return false;
        }
        keep();
        known.knows[p][x] = k;
        return true;
    }

    boolean dares(int p, int k) {
        if (!isPerson(p) || !within(k, 0, 9) || dare(p) == k) {
            return false;
        }
        keep();
        known.dares[p] = k;
        return true;
    }

    int copies(int p, int q) {
        if (!isPerson(p) || !isPerson(q)) {
            return NONE;
        }
        int otherwise = 0;
        for (int x : told.all()) {
            otherwise += knows(p, x) != knows(q, x) ? 1 : 0;
        }
        if (otherwise > 0) {
            keep();
            known.knows[p] = known.knows[q].clone();
        }
        return otherwise;
    }

    private void keep() {
        past.addLast(known.copy());
        if (past.size() > 8) {
            past.removeFirst();
        }
    }

    int undo() {
        if (past.isEmpty()) {
            return NONE;
        }
        known = past.removeLast();
        return past.size();
    }

    boolean image(int k) {
        if (!within(k, 0, 1)) {
            return false;
        }
        images[k] = new Image(told, known.copy(), saying);
        return true;
    }

    boolean restore(int k) {
        if (!within(k, 0, 1) || images[k] == null) {
            return false;
        }
        told = images[k].told;
        known = images[k].known.copy();
        saying = images[k].saying;
        past.clear();
        return true;
    }

    // ---- matches

    /** With j NONE nobody may be bold. */
    private static Ratio won(int own, int other, int k, int j) {
        if (own >= 3 || other >= 3) {
            return own >= 3 ? Ratio.ONE : Ratio.ZERO;
        }
        Ratio plain = round(own, other, k, 1, k, j);
        Ratio bold = j == NONE ? plain : round(own, other, j, 2, k, j);
        return bold.compare(plain) > 0 ? bold : plain;
    }

    private static Ratio round(int own, int other, int ninths, int points, int k, int j) {
        Ratio odds = Ratio.of(ninths, 9);
        return odds.times(won(own + points, other, k, j)).plus(odds.rest().times(won(own, other + points, k, j)));
    }

    private static boolean isMatch(int own, int other, int k, int j) {
        return within(own, 0, 2) && within(other, 0, 2) && within(k, 0, 9) && within(j, 0, 9);
    }

    long match(int own, int other, int k, int what) {
        need(isMatch(own, other, k, 0));
        return part(won(own, other, k, NONE), what);
    }

    int bold(int own, int other, int k, int j) {
        if (!isMatch(own, other, k, j)) {
            return NONE;
        }
        return round(own, other, j, 2, k, j).compare(round(own, other, k, 1, k, j)) > 0 ? 1 : 0;
    }

    long bolder(int own, int other, int k, int j, int what) {
        need(isMatch(own, other, k, j));
        return part(won(own, other, k, j), what);
    }

    // ---- evenings

    int evening() {
        Reader.Evening evening;
        try {
            evening = Reader.evening(takeTape(), told);
        } catch (Reader.Fault e) {
            return faulty(e, -2);
        }
        heard = new Heard(told, evening.clue(), 0, 0, NONE, NONE, NONE);
        int first = NONE;
        for (int i = 0; i < evening.lines().size(); i++) {
            Reader.Line line = evening.lines().get(i);
            int why = why(line);
            if (why > 0) {
                heard = new Heard(told, evening.clue(), why, heard.bid, heard.bidder, heard.namer, heard.speaker);
                return 1 + i;
            }
            if (line.bid() == 0) {
                heard = new Heard(told, evening.clue(), 0, heard.bid, heard.bidder, line.person(), NONE);
            } else {
                heard = new Heard(told, evening.clue(), 0, line.bid(), line.person(), NONE, heard.bidder);
            }
        }
        return NONE;
    }

    private int why(Reader.Line line) {
        if (heard.namer != NONE) {
            return 1;
        }
        if (line.person() == heard.bidder || heard.speaker != NONE && line.person() != heard.speaker) {
            return 2;
        }
        if (line.bid() == 0) {
            return heard.bid == 0 ? 4 : 0;
        }
        return line.bid() > (heard.bid == 0 ? told.from() : heard.bid - 1) ? 3 : 0;
    }

    int heard(int what) {
        if (heard == null || !within(what, 0, 4)) {
            return NONE;
        }
        return new int[] {heard.why, heard.bid, heard.bidder, heard.namer, heard.speaker}[what];
    }

    long told(int what) {
        need(heard != null && heard.why == 0 && heard.namer != NONE && heard.told == told);
        return part(mean(heard.bidder, heard.bid, heard.clue), what);
    }

    // ---- nights

    int night(int p, int q, int seed) {
        if (!areTwo(p, q) || told.clues.isEmpty()) {
            return -2;
        }
        night = new Drawing(seed).night(p, q);
        return night[1] == 3 ? 1 : -1;
    }

    int nightly(int what) {
        return night != null && within(what, 0, 4) ? night[what] : NONE;
    }

    int nights(int p, int q, int n, int seed) {
        if (!areTwo(p, q) || told.clues.isEmpty() || !within(n, 1, 100)) {
            return NONE;
        }
        int wins = 0;
        for (int i = 0; i < n; i++) {
            wins += new Drawing(seed + i).night(p, q)[1] == 3 ? 1 : 0;
        }
        return wins;
    }

    /** A night as it is drawn. */
    private final class Drawing {
        private int x;
        private int tune;
        private SortedSet<Integer> left;

        Drawing(int seed) {
            x = seed;
        }

        private int draw(int n) {
            x = x * 1103515245 + 12345;
            return (x >>> 8) % n;
        }

        private int drawOne(SortedSet<Integer> some) {
            return new ArrayList<>(some).get(draw(some.size()));
        }

        /** As nightly() tells it. */
        int[] night(int p, int q) {
            int[] night = {0, 0, 0, 0, told.from()};
            while (night[1] < 3 && night[2] < 3) {
                round(new int[] {p, q}, night);
            }
            return night;
        }

        private void round(int[] two, int[] night) {
            left = left(draw(told.clues.size()));
            tune = drawOne(left);
            List<SortedSet<Integer>> knows = List.of(drawKnown(two[0]), drawKnown(two[1]));
            int who = night[0] % 2;
            int bid = told.from();
            while (bids(two[1 - who], knows.get(1 - who), bid - 1)) {
                who = 1 - who;
                bid--;
            }
            SortedSet<Integer> names = likes(tune, bid, 0, knows.get(who));
            boolean right = !names.isEmpty() && drawOne(names) == tune;
            night[0]++;
            night[right ? 1 + who : 2 - who]++;
            night[3] += right ? 1 : 0;
            night[4] = Math.min(night[4], bid);
        }

        private SortedSet<Integer> drawKnown(int p) {
            SortedSet<Integer> knows = new TreeSet<>();
            for (int y : left) {
                if (draw(9) < known.knows[p][y]) {
                    knows.add(y);
                }
            }
            return knows;
        }

        private boolean bids(int p, SortedSet<Integer> knows, int n) {
            return n > 0 && knows.contains(tune) && likes(tune, n, 0, knows).size() - 1 <= 9 - known.dares[p];
        }
    }

    // ---- texts and sentences

    int write(int x) {
        if (!isTune(x)) {
            return NONE;
        }
        List<String> notes = new ArrayList<>();
        told.tunes.get(x).forEach(note -> notes.add(note[0] + " " + note[1]));
        text = String.join(" ", notes);
        return text.length();
    }

    int byteAt(int i) {
        return within(i, 0, text.length() - 1) ? text.charAt(i) : NONE;
    }

    int sentence() {
        try {
            saying = Reader.sentence(takeTape(), told);
        } catch (Reader.Fault e) {
            return faulty(e, -1);
        }
        return saying.ones();
    }

    int said(int k) {
        if (saying == null) {
            return NONE;
        }
        List<Integer> holding = new ArrayList<>(told.all());
        holding.removeIf(x -> !saying.condition().holds(this, x));
        return k == NONE ? holding.size() : within(k, 0, holding.size() - 1) ? holding.get(k) : NONE;
    }

    int count(int what) {
        int[] counts = {told.tunes.size(), told.clues.size(), told.personNames.size(), told.from(), tape.length()};
        return within(what, 0, 4) ? counts[what] : NONE;
    }
}
