import java.util.NoSuchElementException;

/** A studio of tunes, clues and persons who name a tune in so many notes; shared/DOC.md tells the promises. */
public final class NameNotes {
    public static final int NONE = -1;

    private static final int MOST_TUNES = 9;
    private static final int MOST_NOTES = 9;
    private static final int MOST_CLUES = 6;
    private static final int MOST_PERSONS = 5;
    private static final int MOST_BID = 9;
    private static final int MOST_PITCH = 24;
    private static final int NINE = 9;
    private static final int HOWS = 4;
    private static final int MEASURES = 4;
    private static final int POINTS = 3;
    private static final int MOST_NIGHTS = 100;

    // All chances by notes are kept over this one number: then they compare, add and take away exactly.
    private static final long WHOLE = 387420489L * 2520L;
    private static final long[] NINES = {1L, 9L, 81L, 729L, 6561L, 59049L, 531441L, 4782969L, 43046721L, 387420489L};
    private static final int[] SHARES = {2520, 1260, 840, 630, 504, 420, 360, 315, 280};
    // At most five rounds make a match, each of nine parts.
    private static final int SURE_MATCH = 59049;
    private static final Word[] WORDS = Word.values();

    private final Tape tape = new Tape();
    private final Studio now = new Studio();
    private final Studio firstImage = new Studio();
    private final Studio secondImage = new Studio();
    private final StudioReader reader = new StudioReader(tape);
    private final Sentence draft = new Sentence();
    private final Evening latest = new Evening();
    private final Ear ear = new Ear();
    private final Duel duel = new Duel();
    private final Night party = new Night();
    private final Journal journal = new Journal();
    private final Text text = new Text();
    private final int[] grid = new int[(MOST_NOTES + 1) * (MOST_NOTES + 1)];
    private final int[] scores = new int[POINTS * POINTS];
    private final int[] daring = new int[POINTS * POINTS];
    private final int[] lastNight = new int[5];
    private boolean nightSpent;
    private int studios;

    public NameNotes() {
        nightSpent = false;
        studios = 0;
    }

    public int feed(int a, int b, int c, int d, int e) {
        if (!tape.hasRoom()) {
            return NONE;
        }
        tape.append(a);
        tape.append(b);
        tape.append(c);
        tape.append(d);
        tape.append(e);
        return tape.size;
    }

    public boolean end(int n) {
        if (n < 0 || n > tape.size) {
            return false;
        }
        tape.size = n;
        return true;
    }

    public int studio() {
        boolean whole = reader.read();
        tape.size = 0;
        if (!whole) {
            return -1 - tape.faultPlace;
        }
        studios++;
        now.copy(reader.fresh);
        now.serial = studios;
        journal.size = 0;
        return reader.lines;
    }

    public int fault() {
        return tape.faultKind;
    }

    public int note(int x, int i, int what) {
        if (!now.hasNote(x, i) || !isPart(what)) {
            return NONE;
        }
        return what == 0 ? now.pitch(x, i) : now.beat(x, i);
    }

    public int tune(int x, int what) {
        return now.isTune(x) && isMeasure(what) ? now.measure(x, what) : NONE;
    }

    public int when(int x, int i) {
        if (!now.hasNote(x, i)) {
            return NONE;
        }
        int sum = 0;
        for (int j = 0; j < i; j++) {
            sum += now.beat(x, j);
        }
        return sum;
    }

    public int clue(int c) {
        return now.isClue(c) ? now.setOf(c) : NONE;
    }

    public int knows(int p, int x) {
        return now.isPerson(p) && now.isTune(x) ? now.ninth(p, x) : NONE;
    }

    public int dare(int p) {
        return now.isPerson(p) ? at(now.daring, p) : NONE;
    }

    public int begins(int x, int n, int how, int c) {
        if (!now.isTune(x) || !isBid(n) || !isHow(how) || !now.isChoice(c)) {
            return NONE;
        }
        return now.likes(x, n, how, now.setOf(c));
    }

    public int parts(int n, int how, int c) {
        if (!isBid(n) || !isHow(how) || !now.isChoice(c)) {
            return NONE;
        }
        int set = now.setOf(c);
        int beginnings = 0;
        for (int x = 0; x < MOST_TUNES; x++) {
            if (has(set, x) && isLeast(now.likes(x, n, how, set), x)) {
                beginnings++;
            }
        }
        return beginnings;
    }

    public int enough(int x, int how, int c) {
        if (!now.isTune(x) || !isHow(how) || !now.isChoice(c) || !has(now.setOf(c), x)) {
            return NONE;
        }
        return now.fewestNotes(x, how, now.setOf(c));
    }

    public long named(int p, int x, int n, int c, int what) throws NoSuchElementException {
        if (!canName(p, x, n, c) || !isPart(what)) {
            throw new NoSuchElementException("no such ones");
        }
        return part(rightChance(p, x, n, c), WHOLE, what);
    }

    public long odds(int p, int n, int c, int what) throws NoSuchElementException {
        if (!now.isPerson(p) || !isBid(n) || !now.isClue(c) || !isPart(what)) {
            throw new NoSuchElementException("no such ones");
        }
        return part(chanceOf(p, n, now.setOf(c)), WHOLE, what);
    }

    public int needs(int p, int k, int c) {
        if (!now.isPerson(p) || !isNinth(k) || !now.isClue(c)) {
            return NONE;
        }
        for (int n = 1; n <= MOST_BID; n++) {
            if (reaches(chanceOf(p, n, now.setOf(c)), k)) {
                return n;
            }
        }
        return NONE;
    }

    public int best(int p, int q, int n, int c) {
        if (!canBid(p, q, n, c)) {
            return NONE;
        }
        weigh(p, q, c);
        return duel.move(0, n);
    }

    public long worth(int p, int q, int n, int c, int what) throws NoSuchElementException {
        if (!canBid(p, q, n, c) || !isPart(what)) {
            throw new NoSuchElementException("no such ones");
        }
        weigh(p, q, c);
        return part(duel.value(0, n), WHOLE, what);
    }

    public int reply(int p, int q, int n, int c) {
        if (!canBid(p, q, n, c)) {
            return NONE;
        }
        counter(p, q, c);
        return duel.move(0, n);
    }

    public long gains(int p, int q, int n, int c, int what) throws NoSuchElementException {
        if (!canBid(p, q, n, c) || !isPart(what)) {
            throw new NoSuchElementException("no such ones");
        }
        counter(p, q, c);
        return part(duel.value(0, n), WHOLE, what);
    }

    public int fair(int p, int q, int c) {
        if (!canBid(p, q, 0, c)) {
            return NONE;
        }
        weigh(p, q, c);
        long speaking = 2 * duel.value(0, 0);
        long answering = 2 * (WHOLE - duel.value(1, 0));
        if (speaking > WHOLE && answering > WHOLE) {
            return 1;
        }
        return speaking < WHOLE && answering < WHOLE ? -1 : 0;
    }

    public long held(int p, int x, int n, int c, int right, int what) throws NoSuchElementException {
        if (!canName(p, x, n, c) || !isPart(right) || !isPart(what)) {
            throw new NoSuchElementException("no such ones");
        }
        long named = rightChance(p, x, n, c);
        if (named == (right == 1 ? 0 : WHOLE)) {
            throw new NoSuchElementException("it can't be");
        }
        if (right == 1) {
            return part(WHOLE, WHOLE, what);
        }
        long known = now.ninth(p, x) * (WHOLE / NINE);
        return part(known - named, WHOLE - named, what);
    }

    public long among(int p, int n, int set, int what) throws NoSuchElementException {
        if (!now.isPerson(p) || !isBid(n) || set < 1 || set > now.allTunes() || !isPart(what)) {
            throw new NoSuchElementException("no such ones");
        }
        return part(chanceOf(p, n, set), WHOLE, what);
    }

    public int low(int p, int q, int c) {
        if (!canBid(p, q, 0, c)) {
            return NONE;
        }
        weigh(p, q, c);
        return duel.lastBid();
    }

    public int lowest(int p, int q) {
        int found = NONE;
        int least = 0;
        for (int c = 0; c < now.clues; c++) {
            int bid = low(p, q, c);
            if (bid != NONE && (found == NONE || bid < least)) {
                found = c;
                least = bid;
            }
        }
        return found;
    }

    public int closest(int p, int q) {
        int found = NONE;
        long least = 0;
        for (int c = 0; c < now.clues; c++) {
            if (canBid(p, q, 0, c)) {
                weigh(p, q, c);
                long away = Math.abs(2 * duel.value(0, 0) - WHOLE);
                if (found == NONE || away < least) {
                    found = c;
                    least = away;
                }
            }
        }
        return found;
    }

    public int play(int p, int q, int c) {
        if (!canBid(p, q, 0, c)) {
            return NONE;
        }
        weigh(p, q, c);
        text.clear();
        text.addWord("clue ");
        text.addName(at(now.clueNames, c));
        text.addSign(';');
        int side = 0;
        int bid = duel.move(0, 0);
        for (int i = 0; i < MOST_BID && bid > 0; i++) {
            addSpeaker(side == 0 ? p : q);
            text.addNumber(bid);
            text.addSign(';');
            side = 1 - side;
            bid = duel.move(side, bid);
        }
        addSpeaker(side == 0 ? p : q);
        text.addWord("name;");
        return text.size;
    }

    public int ablest(int n, int c) {
        if (!isBid(n) || !now.isClue(c)) {
            return NONE;
        }
        int found = NONE;
        long most = -1;
        for (int p = 0; p < now.persons; p++) {
            long chance = chanceOf(p, n, now.setOf(c));
            if (chance > most) {
                found = p;
                most = chance;
            }
        }
        return found;
    }

    public int hardest(int how, int c) {
        if (!isHow(how) || !now.isClue(c)) {
            return NONE;
        }
        int set = now.setOf(c);
        int found = NONE;
        int most = 0;
        for (int x = 0; x < now.tunes; x++) {
            if (has(set, x)) {
                int fewest = now.fewestNotes(x, how, set);
                int notes = fewest == NONE ? MOST_BID + 1 : fewest;
                if (notes > most) {
                    found = x;
                    most = notes;
                }
            }
        }
        return found;
    }

    public int learn(int p, int n, int c, int k) {
        if (!now.isPerson(p) || !isBid(n) || !now.isClue(c) || !isNinth(k)) {
            return NONE;
        }
        int set = now.setOf(c);
        int found = NONE;
        long most = -1;
        ear.group(now, n, set);
        for (int sure = 0; sure <= set; sure++) {
            if ((sure & ~set) == 0 && Integer.bitCount(sure) <= k) {
                ear.listen(now, p, sure);
                long chance = ear.chance();
                if (chance > most || chance == most && isFewer(sure, found)) {
                    found = sure;
                    most = chance;
                }
            }
        }
        return found;
    }

    public boolean teach(int p, int x, int k) {
        if (!now.isPerson(p) || !now.isTune(x) || !isNinth(k) || now.ninth(p, x) == k) {
            return false;
        }
        journal.keep(now, p);
        now.setNinth(p, x, k);
        return true;
    }

    public boolean dares(int p, int k) {
        if (!now.isPerson(p) || !isNinth(k) || at(now.daring, p) == k) {
            return false;
        }
        journal.keep(now, p);
        put(now.daring, p, k);
        return true;
    }

    public int undo() {
        if (journal.size < 1) {
            return NONE;
        }
        journal.takeBack(now);
        return journal.size;
    }

    public long match(int own, int other, int k, int what) throws NoSuchElementException {
        if (!isScore(own) || !isScore(other) || !isNinth(k) || !isPart(what)) {
            throw new NoSuchElementException("no such ones");
        }
        scoreAll(k, k, false);
        return part(scored(own, other), SURE_MATCH, what);
    }

    public int bold(int own, int other, int k, int j) {
        if (!isScore(own) || !isScore(other) || !isNinth(k) || !isNinth(j)) {
            return NONE;
        }
        scoreAll(k, j, true);
        return at(daring, own * POINTS + other);
    }

    public long bolder(int own, int other, int k, int j, int what) throws NoSuchElementException {
        if (!isScore(own) || !isScore(other) || !isNinth(k) || !isNinth(j) || !isPart(what)) {
            throw new NoSuchElementException("no such ones");
        }
        scoreAll(k, j, true);
        return part(scored(own, other), SURE_MATCH, what);
    }

    public int lessons(int p, int n, int c, int k) {
        if (!now.isPerson(p) || !isBid(n) || !now.isClue(c) || !isNinth(k)) {
            return NONE;
        }
        int set = now.setOf(c);
        int found = NONE;
        ear.group(now, n, set);
        for (int sure = 0; sure <= set; sure++) {
            if ((sure & ~set) == 0 && (found == NONE || isFewer(sure, found))) {
                ear.listen(now, p, sure);
                if (reaches(ear.chance(), k)) {
                    found = sure;
                }
            }
        }
        return found;
    }

    public int copies(int p, int q) {
        if (!now.isPerson(p) || !now.isPerson(q)) {
            return NONE;
        }
        int others = 0;
        for (int x = 0; x < now.tunes; x++) {
            if (now.ninth(p, x) != now.ninth(q, x)) {
                others++;
            }
        }
        if (others > 0) {
            journal.keep(now, p);
            for (int x = 0; x < now.tunes; x++) {
                now.setNinth(p, x, now.ninth(q, x));
            }
        }
        return others;
    }

    public int twins(int n, int how, int c, int k) {
        if (!isBid(n) || !isHow(how) || !now.isChoice(c) || k < NONE) {
            return NONE;
        }
        int set = now.setOf(c);
        int pairs = 0;
        for (int x = 0; x < now.tunes; x++) {
            int likes = has(set, x) ? now.likes(x, n, how, set) : 0;
            for (int y = x + 1; y < now.tunes; y++) {
                if (has(likes, y)) {
                    if (pairs == k) {
                        return 10 * x + y;
                    }
                    pairs++;
                }
            }
        }
        return k == NONE ? pairs : NONE;
    }

    public int alike(int x, int y, int how) {
        if (!now.isTune(x) || !now.isTune(y) || !isHow(how)) {
            return NONE;
        }
        return now.sharedNotes(x, y, how);
    }

    public int apart(int x, int y) {
        return now.isTune(x) && now.isTune(y) ? distance(x, y) : NONE;
    }

    public int nearest(int x, int c) {
        if (!now.isTune(x) || !now.isChoice(c)) {
            return NONE;
        }
        int set = now.setOf(c);
        int found = NONE;
        int least = 0;
        for (int y = 0; y < now.tunes; y++) {
            if (y != x && has(set, y)) {
                int away = distance(x, y);
                if (found == NONE || away < least) {
                    found = y;
                    least = away;
                }
            }
        }
        return found;
    }

    public int rank(int k, int what) {
        if (!isMeasure(what)) {
            return NONE;
        }
        for (int x = 0; x < now.tunes; x++) {
            int ahead = 0;
            for (int y = 0; y < now.tunes; y++) {
                int order = Integer.compare(now.measure(y, what), now.measure(x, what));
                if (order < 0 || order == 0 && y < x) {
                    ahead++;
                }
            }
            if (ahead == k) {
                return x;
            }
        }
        return NONE;
    }

    public int commonest() {
        int found = NONE;
        int most = 0;
        for (int pitch = 0; pitch <= MOST_PITCH; pitch++) {
            int times = now.timesOf(pitch);
            if (times > most) {
                found = pitch;
                most = times;
            }
        }
        return found;
    }

    public int cover() {
        int found = NONE;
        for (int chosen = 0; chosen < 1 << now.clues; chosen++) {
            int left = 0;
            for (int c = 0; c < now.clues; c++) {
                left |= has(chosen, c) ? now.setOf(c) : 0;
            }
            if (left == now.allTunes() && (found == NONE || isFewer(chosen, found))) {
                found = chosen;
            }
        }
        return found;
    }

    public int evening() {
        boolean whole = latest.read(tape, now);
        tape.size = 0;
        return whole ? latest.judge(now) : -2 - tape.faultPlace;
    }

    public int heard(int what) {
        return latest.any && what >= 0 && what < latest.state.length ? latest.state[what] : NONE;
    }

    public long told(int what) throws NoSuchElementException {
        if (!isPart(what) || !latest.isNaming() || latest.serial != now.serial) {
            throw new NoSuchElementException("nobody must name it");
        }
        long chance = chanceOf(latest.bidder(), latest.bid(), now.setOf(latest.clue));
        return part(chance, WHOLE, what);
    }

    public int night(int p, int q, int seed) {
        if (!canSpendNight(p, q)) {
            return -2;
        }
        party.spend(now, p, q, seed);
        nightSpent = true;
        lastNight[0] = party.rounds;
        lastNight[1] = party.points[0];
        lastNight[2] = party.points[1];
        lastNight[3] = party.rights;
        lastNight[4] = party.least;
        return party.firstWins() ? 1 : -1;
    }

    public int nightly(int what) {
        return nightSpent && what >= 0 && what < lastNight.length ? lastNight[what] : NONE;
    }

    public int nights(int p, int q, int n, int seed) {
        if (!canSpendNight(p, q) || n < 1 || n > MOST_NIGHTS) {
            return NONE;
        }
        int wins = 0;
        for (int i = 0; i < n; i++) {
            party.spend(now, p, q, seed + i);
            wins += party.firstWins() ? 1 : 0;
        }
        return wins;
    }

    public int write(int x) {
        if (!now.isTune(x)) {
            return NONE;
        }
        text.clear();
        for (int i = 0; i < at(now.sizes, x); i++) {
            if (i > 0) {
                text.addSign(' ');
            }
            text.addNumber(now.pitch(x, i));
            text.addSign(' ');
            text.addNumber(now.beat(x, i));
        }
        return text.size;
    }

    public int byteAt(int i) {
        return i >= 0 && i < text.size ? at(text.signs, i) : NONE;
    }

    public int sentence() {
        boolean whole = draft.read(tape, now);
        tape.size = 0;
        if (!whole) {
            return -1 - tape.faultPlace;
        }
        now.sentence.copy(draft);
        return draft.ones;
    }

    public int said(int k) {
        if (now.sentence.ones < 1 || k < NONE) {
            return NONE;
        }
        int set = now.sentence.holding(now);
        return k == NONE ? Integer.bitCount(set) : nth(set, k);
    }

    public boolean image(int k) {
        Studio place = imageAt(k);
        if (place == null) {
            return false;
        }
        place.copy(now);
        place.kept = true;
        return true;
    }

    public boolean restore(int k) {
        Studio place = imageAt(k);
        if (place == null || !place.kept) {
            return false;
        }
        now.copy(place);
        journal.size = 0;
        return true;
    }

    public int count(int what) {
        switch (what) {
            case 0:
                return now.tunes;
            case 1:
                return now.clues;
            case 2:
                return now.persons;
            case 3:
                return now.from;
            case 4:
                return tape.size;
            default:
                return NONE;
        }
    }

    private Studio imageAt(int k) {
        if (k == 0) {
            return firstImage;
        }
        return k == 1 ? secondImage : null;
    }

    private boolean canName(int p, int x, int n, int c) {
        return now.isPerson(p) && isBid(n) && now.isClue(c) && has(now.setOf(c), x);
    }

    private boolean canBid(int p, int q, int n, int c) {
        return now.isPerson(p) && now.isPerson(q) && p != q && (n == 0 || isBid(n)) && now.isClue(c);
    }

    private boolean canSpendNight(int p, int q) {
        return now.isPerson(p) && now.isPerson(q) && p != q && now.clues > 0;
    }

    private long rightChance(int p, int x, int n, int c) {
        ear.group(now, n, now.setOf(c));
        ear.listen(now, p, 0);
        return ear.right(x);
    }

    private long chanceOf(int p, int n, int set) {
        ear.group(now, n, set);
        ear.listen(now, p, 0);
        return ear.chance();
    }

    private void weigh(int p, int q, int c) {
        duel.hear(now, ear, p, q, now.setOf(c));
        duel.doBest(now.from);
    }

    private void counter(int p, int q, int c) {
        duel.hear(now, ear, p, q, now.setOf(c));
        duel.doAgainst(now.from, at(now.daring, q));
    }

    private void addSpeaker(int p) {
        text.addName(at(now.personNames, p));
        text.addSign(' ');
    }

    private void scoreAll(int k, int j, boolean mayDare) {
        for (int own = POINTS - 1; own >= 0; own--) {
            for (int other = POINTS - 1; other >= 0; other--) {
                int plain = (k * scored(own + 1, other) + (NINE - k) * scored(own, other + 1)) / NINE;
                int risked = (j * scored(own + 2, other) + (NINE - j) * scored(own, other + 2)) / NINE;
                boolean risks = mayDare && risked > plain;
                put(scores, own * POINTS + other, risks ? risked : plain);
                put(daring, own * POINTS + other, risks ? 1 : 0);
            }
        }
    }

    private int scored(int own, int other) {
        if (own >= POINTS) {
            return SURE_MATCH;
        }
        return other >= POINTS ? 0 : at(scores, own * POINTS + other);
    }

    private int distance(int x, int y) {
        int wide = MOST_NOTES + 1;
        int down = at(now.sizes, x);
        int across = at(now.sizes, y);
        for (int i = 0; i <= down; i++) {
            for (int j = 0; j <= across; j++) {
                int least = i == 0 ? j : i;
                if (i > 0 && j > 0) {
                    int changed = now.isOneNote(x, i - 1, y, j - 1) ? 0 : 1;
                    least = at(grid, (i - 1) * wide + j - 1) + changed;
                    least = Math.min(least, at(grid, (i - 1) * wide + j) + 1);
                    least = Math.min(least, at(grid, i * wide + j - 1) + 1);
                }
                put(grid, i * wide + j, least);
            }
        }
        return at(grid, down * wide + across);
    }

    private static boolean isBid(int n) {
        return n >= 1 && n <= MOST_BID;
    }

    private static boolean isHow(int how) {
        return how >= 0 && how < HOWS;
    }

    private static boolean isMeasure(int what) {
        return what >= 0 && what < MEASURES;
    }

    private static boolean isNinth(int k) {
        return k >= 0 && k <= NINE;
    }

    private static boolean isScore(int points) {
        return points >= 0 && points < POINTS;
    }

    private static boolean isPart(int what) {
        return what == 0 || what == 1;
    }

    private static boolean reaches(long chance, int k) {
        return chance * NINE >= k * WHOLE;
    }

    private static long part(long above, long below, int what) {
        long a = above;
        long b = below;
        for (int i = 0; i < 200 && b != 0; i++) {
            long rest = a % b;
            a = b;
            b = rest;
        }
        if (a == 0) {
            return 0;
        }
        return what == 0 ? above / a : below / a;
    }

    private static boolean has(int set, int x) {
        return x >= 0 && x < MOST_TUNES && (set >> x & 1) == 1;
    }

    private static boolean isLeast(int set, int x) {
        return (set & -set) == 1 << x;
    }

    private static boolean isFewer(int set, int than) {
        return Integer.bitCount(set) < Integer.bitCount(than);
    }

    private static int nth(int set, int k) {
        int ahead = 0;
        for (int x = 0; x < MOST_TUNES; x++) {
            if (has(set, x)) {
                if (ahead == k) {
                    return x;
                }
                ahead++;
            }
        }
        return NONE;
    }

    private static int at(int[] row, int i) {
        return row != null && i >= 0 && i < row.length ? row[i] : 0;
    }

    private static long at(long[] row, int i) {
        return row != null && i >= 0 && i < row.length ? row[i] : 0;
    }

    private static void put(int[] row, int i, int value) {
        if (row != null && i >= 0 && i < row.length) {
            row[i] = value;
        }
    }

    private static void put(long[] row, int i, long value) {
        if (row != null && i >= 0 && i < row.length) {
            row[i] = value;
        }
    }

    private static void copyRow(int[] from, int[] to) {
        for (int i = 0; i < from.length && i < to.length; i++) {
            to[i] = from[i];
        }
    }

    private static void copyRow(long[] from, long[] to) {
        for (int i = 0; i < from.length && i < to.length; i++) {
            to[i] = from[i];
        }
    }

    private static void fillRow(int[] row, int value) {
        for (int i = 0; i < row.length; i++) {
            row[i] = value;
        }
    }

    /** The words that no name may be, each with its code (five bits a letter). */
    private enum Word {
        TUNE("tune"), CLUE("clue"), PERSON("person"), KNOWS("knows"), DARE("dare"), FROM("from"),
        NAME("name"), OR("or"), AND("and"), NOT("not"), IN("in"), SURE("sure"), LIKE("like"),
        NOTES("notes"), HIGH("high"), LOW("low"), BEATS("beats");

        final long code;

        Word(String letters) {
            long sum = 0;
            for (int i = 0; i < letters.length(); i++) {
                sum = Tape.withLetter(sum, letters.charAt(i));
            }
            code = sum;
        }
    }

    /** The bytes that were fed, read token by token, and the first fault found in them. */
    private static final class Tape {
        static final int MOST = 940;
        static final int FED = 20;
        static final int LETTERS = 7;
        static final int DIGITS = 2;
        static final int END = 0;
        static final int BROKEN = 1;
        static final int WORD = 2;
        static final int NUMBER = 3;

        final byte[] bytes = new byte[MOST];
        int size;
        int most;
        int next;
        int place;
        // END to NUMBER, or the sign itself.
        int kind;
        long word;
        Word keyword;
        int number;
        int faultKind;
        int faultPlace;

        boolean hasRoom() {
            return size + FED <= MOST;
        }

        void append(int four) {
            for (int shift = 24; shift >= 0; shift -= 8) {
                if (size >= 0 && size < bytes.length) {
                    bytes[size] = (byte) (four >> shift);
                    size++;
                }
            }
        }

        void open(int mostBytes) {
            most = mostBytes;
            next = 0;
            faultKind = 0;
            faultPlace = 0;
            step();
        }

        void step() {
            while (next < size && isBlank(look(next))) {
                next++;
            }
            keyword = null;
            if (size > most && next >= most) {
                place = most;
                kind = BROKEN;
                return;
            }
            place = next;
            int first = look(next);
            if (next >= size) {
                kind = END;
            } else if (isLetter(first) || isDigit(first)) {
                readRun();
            } else {
                kind = isSign(first) ? first : BROKEN;
                next++;
            }
        }

        private void readRun() {
            int letters = 0;
            int digits = 0;
            word = 0;
            number = 0;
            for (int b = look(next); next < size && (isLetter(b) || isDigit(b)); b = look(next)) {
                if (isLetter(b)) {
                    letters++;
                    word = withLetter(word, b);
                } else {
                    digits++;
                    number = number * 10 + b - '0';
                }
                next++;
            }
            kind = BROKEN;
            if (digits == 0 && letters <= LETTERS) {
                kind = WORD;
                findKeyword();
            } else if (letters == 0 && digits <= DIGITS) {
                kind = NUMBER;
            }
        }

        private void findKeyword() {
            for (int i = 0; i < WORDS.length; i++) {
                if (WORDS[i].code == word) {
                    keyword = WORDS[i];
                }
            }
        }

        private int look(int i) {
            return i >= 0 && i < size && i < bytes.length ? bytes[i] & 255 : 0;
        }

        boolean isName() {
            return kind == WORD && keyword == null;
        }

        boolean isWord(Word wanted) {
            return kind == WORD && keyword == wanted;
        }

        /** The number of the name that stands here, or NONE and a fault. */
        int seek(long[] names, int known) {
            if (!isName()) {
                refuse(1);
                return NONE;
            }
            for (int i = 0; i < known && i < names.length; i++) {
                if (names[i] == word) {
                    return i;
                }
            }
            refuse(3);
            return NONE;
        }

        boolean needNumber(int least, int greatest) {
            if (kind != NUMBER) {
                return refuse(1);
            }
            return number >= least && number <= greatest || refuse(2);
        }

        boolean takeSign(int sign) {
            if (kind != sign) {
                return refuse(1);
            }
            step();
            return true;
        }

        boolean refuse(int fault) {
            faultKind = fault;
            faultPlace = place;
            return false;
        }

        static long withLetter(long code, int letter) {
            return code * 32 + letter - 'a' + 1;
        }

        static boolean isBlank(int b) {
            return b == 32 || b == 10;
        }

        static boolean isLetter(int b) {
            return b >= 'a' && b <= 'z';
        }

        static boolean isDigit(int b) {
            return b >= '0' && b <= '9';
        }

        static boolean isSign(int b) {
            return b == ';' || b >= '<' && b <= '>' || b == '(' || b == ')' || b == '.';
        }
    }

    /** What a studio tells, what is known in it now, and what is said of its tunes. */
    private static final class Studio {
        final int[] pitches = new int[MOST_TUNES * MOST_NOTES];
        final int[] beats = new int[MOST_TUNES * MOST_NOTES];
        final int[] sizes = new int[MOST_TUNES];
        // For each way to be like, and each two tunes, how many first notes they share.
        final int[] shared = new int[HOWS * MOST_TUNES * MOST_TUNES];
        final int[] left = new int[MOST_CLUES];
        final int[] ninths = new int[MOST_PERSONS * MOST_TUNES];
        final int[] daring = new int[MOST_PERSONS];
        final long[] tuneNames = new long[MOST_TUNES];
        final long[] clueNames = new long[MOST_CLUES];
        final long[] personNames = new long[MOST_PERSONS];
        final Sentence sentence = new Sentence();
        int tunes;
        int clues;
        int persons;
        int from = MOST_BID;
        // Which of the studios told this is; an image keeps it.
        int serial;
        boolean kept;

        void clear() {
            tunes = 0;
            clues = 0;
            persons = 0;
            from = MOST_BID;
            fillRow(ninths, 0);
            fillRow(daring, 5);
            sentence.clear();
        }

        void copy(Studio other) {
            copyRow(other.pitches, pitches);
            copyRow(other.beats, beats);
            copyRow(other.sizes, sizes);
            copyRow(other.shared, shared);
            copyRow(other.left, left);
            copyRow(other.ninths, ninths);
            copyRow(other.daring, daring);
            copyRow(other.tuneNames, tuneNames);
            copyRow(other.clueNames, clueNames);
            copyRow(other.personNames, personNames);
            sentence.copy(other.sentence);
            tunes = other.tunes;
            clues = other.clues;
            persons = other.persons;
            from = other.from;
            serial = other.serial;
        }

        boolean isTune(int x) {
            return x >= 0 && x < tunes;
        }

        boolean isClue(int c) {
            return c >= 0 && c < clues;
        }

        boolean isPerson(int p) {
            return p >= 0 && p < persons;
        }

        /** A clue, or NONE for all tunes. */
        boolean isChoice(int c) {
            return c == NONE || isClue(c);
        }

        int setOf(int c) {
            return c == NONE ? allTunes() : at(left, c);
        }

        int allTunes() {
            return (1 << tunes) - 1;
        }

        boolean hasNote(int x, int i) {
            return isTune(x) && i >= 0 && i < at(sizes, x);
        }

        int pitch(int x, int i) {
            return at(pitches, x * MOST_NOTES + i);
        }

        int beat(int x, int i) {
            return at(beats, x * MOST_NOTES + i);
        }

        int ninth(int p, int x) {
            return at(ninths, p * MOST_TUNES + x);
        }

        void setNinth(int p, int x, int k) {
            put(ninths, p * MOST_TUNES + x, k);
        }

        /** 0 notes, 1 the greatest pitch, 2 the least, 3 all lengths. */
        int measure(int x, int what) {
            int notes = at(sizes, x);
            int greatest = 0;
            int least = MOST_PITCH;
            int sum = 0;
            for (int i = 0; i < notes; i++) {
                greatest = Math.max(greatest, pitch(x, i));
                least = Math.min(least, pitch(x, i));
                sum += beat(x, i);
            }
            if (what == 0) {
                return notes;
            }
            if (what == 1) {
                return greatest;
            }
            return what == 2 ? least : sum;
        }

        int timesOf(int pitch) {
            int times = 0;
            for (int x = 0; x < tunes; x++) {
                for (int i = 0; i < at(sizes, x); i++) {
                    times += pitch(x, i) == pitch ? 1 : 0;
                }
            }
            return times;
        }

        private boolean sameNote(int x, int y, int i, int how) {
            if (!hasNote(x, i) || !hasNote(y, i)) {
                return hasNote(x, i) == hasNote(y, i);
            }
            if (how == 3) {
                return pitch(x, i) - pitch(x, 0) == pitch(y, i) - pitch(y, 0);
            }
            boolean samePitch = pitch(x, i) == pitch(y, i);
            boolean sameBeat = beat(x, i) == beat(y, i);
            return (how == 2 || samePitch) && (how == 1 || sameBeat);
        }

        boolean isOneNote(int x, int i, int y, int j) {
            return pitch(x, i) == pitch(y, j) && beat(x, i) == beat(y, j);
        }

        /** Two tunes are like by as many notes as they share, and by fewer. */
        void compareAll() {
            for (int how = 0; how < HOWS; how++) {
                for (int x = 0; x < tunes; x++) {
                    for (int y = 0; y < tunes; y++) {
                        put(shared, pair(x, y, how), countShared(x, y, how));
                    }
                }
            }
        }

        private int countShared(int x, int y, int how) {
            int n = 0;
            for (int i = 0; i < MOST_NOTES && sameNote(x, y, i, how); i++) {
                n++;
            }
            return n;
        }

        private static int pair(int x, int y, int how) {
            return (how * MOST_TUNES + x) * MOST_TUNES + y;
        }

        int sharedNotes(int x, int y, int how) {
            return at(shared, pair(x, y, how));
        }

        int likes(int x, int n, int how, int set) {
            int found = 0;
            for (int y = 0; y < tunes; y++) {
                if (has(set, y) && sharedNotes(x, y, how) >= n) {
                    found |= 1 << y;
                }
            }
            return found;
        }

        int fewestNotes(int x, int how, int set) {
            for (int n = 1; n <= MOST_BID; n++) {
                if (likes(x, n, how, set) == 1 << x) {
                    return n;
                }
            }
            return NONE;
        }
    }

    /** Reads a studio from the tape into a fresh one. */
    private static final class StudioReader {
        static final int MOST_BYTES = 900;

        final Tape tape;
        final Studio fresh = new Studio();
        final int[] knowsTold = new int[MOST_PERSONS];
        int daresTold;
        boolean fromTold;
        int lines;

        StudioReader(Tape source) {
            tape = source;
        }

        boolean read() {
            fresh.clear();
            fillRow(knowsTold, 0);
            daresTold = 0;
            fromTold = false;
            lines = 0;
            tape.open(MOST_BYTES);
            for (int i = 0; i < MOST_BYTES && tape.kind != Tape.END; i++) {
                if (!readLine() || !tape.takeSign(';')) {
                    return false;
                }
                lines++;
            }
            fresh.compareAll();
            return true;
        }

        private boolean readLine() {
            if (tape.isWord(Word.TUNE)) {
                return readTune();
            }
            if (tape.isWord(Word.CLUE)) {
                return readClue();
            }
            if (tape.isWord(Word.PERSON)) {
                return readPerson();
            }
            if (tape.isWord(Word.KNOWS)) {
                return readKnows();
            }
            if (tape.isWord(Word.DARE)) {
                return readDare();
            }
            return tape.isWord(Word.FROM) ? readFrom() : tape.refuse(1);
        }

        private boolean readTune() {
            int x = fresh.tunes;
            if (x >= MOST_TUNES) {
                return tape.refuse(4);
            }
            tape.step();
            if (!isNewName()) {
                return false;
            }
            put(fresh.tuneNames, x, tape.word);
            put(fresh.sizes, x, 0);
            fresh.tunes++;
            tape.step();
            boolean going = readNote(x);
            for (int i = 0; i < MOST_NOTES && going && tape.kind == Tape.NUMBER; i++) {
                going = readNote(x);
            }
            return going;
        }

        private boolean readNote(int x) {
            int i = at(fresh.sizes, x);
            if (!tape.needNumber(0, MOST_PITCH)) {
                return false;
            }
            if (i >= MOST_NOTES) {
                return tape.refuse(4);
            }
            put(fresh.pitches, x * MOST_NOTES + i, tape.number);
            tape.step();
            if (!tape.needNumber(1, NINE)) {
                return false;
            }
            put(fresh.beats, x * MOST_NOTES + i, tape.number);
            put(fresh.sizes, x, i + 1);
            tape.step();
            return true;
        }

        private boolean readClue() {
            int c = fresh.clues;
            if (c >= MOST_CLUES) {
                return tape.refuse(4);
            }
            tape.step();
            if (!isNewName()) {
                return false;
            }
            put(fresh.clueNames, c, tape.word);
            put(fresh.left, c, 0);
            fresh.clues++;
            tape.step();
            boolean going = readLeft(c);
            for (int i = 0; i < MOST_TUNES && going && tape.kind == Tape.WORD; i++) {
                going = readLeft(c);
            }
            return going;
        }

        // A tenth tune of a clue is always one told again or one not told: nine may be told in all.
        private boolean readLeft(int c) {
            int x = tape.seek(fresh.tuneNames, fresh.tunes);
            if (x == NONE) {
                return false;
            }
            int set = at(fresh.left, c);
            if (has(set, x)) {
                return tape.refuse(3);
            }
            put(fresh.left, c, set | 1 << x);
            tape.step();
            return true;
        }

        private boolean readPerson() {
            int p = fresh.persons;
            if (p >= MOST_PERSONS) {
                return tape.refuse(4);
            }
            tape.step();
            if (!isNewName()) {
                return false;
            }
            put(fresh.personNames, p, tape.word);
            fresh.persons++;
            tape.step();
            return true;
        }

        private boolean readKnows() {
            tape.step();
            int p = tape.seek(fresh.personNames, fresh.persons);
            int place = tape.place;
            if (p == NONE) {
                return false;
            }
            tape.step();
            int x = tape.seek(fresh.tuneNames, fresh.tunes);
            if (x == NONE) {
                return false;
            }
            int told = at(knowsTold, p);
            if (has(told, x)) {
                tape.refuse(3);
                tape.faultPlace = place;
                return false;
            }
            put(knowsTold, p, told | 1 << x);
            tape.step();
            if (!tape.needNumber(0, NINE)) {
                return false;
            }
            fresh.setNinth(p, x, tape.number);
            tape.step();
            return true;
        }

        private boolean readDare() {
            tape.step();
            int p = tape.seek(fresh.personNames, fresh.persons);
            if (p == NONE) {
                return false;
            }
            if (has(daresTold, p)) {
                return tape.refuse(3);
            }
            daresTold |= 1 << p;
            tape.step();
            if (!tape.needNumber(0, NINE)) {
                return false;
            }
            put(fresh.daring, p, tape.number);
            tape.step();
            return true;
        }

        private boolean readFrom() {
            if (fromTold) {
                return tape.refuse(3);
            }
            fromTold = true;
            tape.step();
            if (!tape.needNumber(1, MOST_BID)) {
                return false;
            }
            fresh.from = tape.number;
            tape.step();
            return true;
        }

        private boolean isNewName() {
            if (!tape.isName()) {
                return tape.refuse(1);
            }
            boolean told = isIn(fresh.tuneNames, fresh.tunes) || isIn(fresh.clueNames, fresh.clues)
                    || isIn(fresh.personNames, fresh.persons);
            return !told || tape.refuse(3);
        }

        private boolean isIn(long[] names, int known) {
            for (int i = 0; i < known && i < names.length; i++) {
                if (names[i] == tape.word) {
                    return true;
                }
            }
            return false;
        }
    }

    /** A condition on tunes, kept as steps that work on a stack of sets. */
    private static final class Sentence {
        static final int MOST_BYTES = 200;
        static final int MOST_ONES = 20;
        static final int MOST_WITHIN = 8;
        static final int LIKE_NOTES = 3;
        static final int MOST_STEPS = 64;
        static final int NOT = 0;
        static final int AND = 1;
        static final int OR = 2;
        static final int IN = 3;
        static final int SURE = 4;
        static final int LIKE = 5;
        // From here on three steps for each measure: below, equal, above.
        static final int MEASURE = 6;

        final int[] kinds = new int[MOST_STEPS];
        final int[] values = new int[MOST_STEPS];
        final int[] stack = new int[MOST_STEPS];
        int steps;
        int ones;

        void clear() {
            steps = 0;
            ones = 0;
        }

        void copy(Sentence other) {
            copyRow(other.kinds, kinds);
            copyRow(other.values, values);
            steps = other.steps;
            ones = other.ones;
        }

        boolean read(Tape tape, Studio studio) {
            clear();
            tape.open(MOST_BYTES);
            if (!readCond(tape, studio, 1)) {
                return false;
            }
            return tape.kind == Tape.END || tape.refuse(1);
        }

        private boolean readCond(Tape tape, Studio studio, int depth) {
            boolean going = readOne(tape, studio, depth);
            boolean waiting = false;
            for (int i = 0; i < MOST_ONES && going && (tape.isWord(Word.AND) || tape.isWord(Word.OR)); i++) {
                boolean and = tape.isWord(Word.AND);
                if (!and && waiting) {
                    addStep(OR, 0);
                }
                waiting |= !and;
                tape.step();
                going = readOne(tape, studio, depth);
                if (and) {
                    addStep(AND, 0);
                }
            }
            if (waiting) {
                addStep(OR, 0);
            }
            return going;
        }

        private boolean readOne(Tape tape, Studio studio, int depth) {
            int kind = kindOf(tape);
            boolean opens = tape.kind == '(';
            if (kind == NONE && !opens) {
                return tape.refuse(1);
            }
            if (ones >= MOST_ONES || depth > MOST_WITHIN) {
                return tape.refuse(4);
            }
            ones++;
            tape.step();
            if (opens) {
                return readCond(tape, studio, depth + 1) && tape.takeSign(')');
            }
            if (kind == NOT) {
                boolean whole = readOne(tape, studio, depth + 1);
                addStep(NOT, 0);
                return whole;
            }
            return kind < MEASURE ? readNamed(tape, studio, kind) : readMeasured(tape, kind);
        }

        private boolean readNamed(Tape tape, Studio studio, int kind) {
            int i;
            if (kind == IN) {
                i = tape.seek(studio.clueNames, studio.clues);
            } else if (kind == SURE) {
                i = tape.seek(studio.personNames, studio.persons);
            } else {
                i = tape.seek(studio.tuneNames, studio.tunes);
            }
            if (i == NONE) {
                return false;
            }
            addStep(kind, i);
            tape.step();
            return true;
        }

        private boolean readMeasured(Tape tape, int kind) {
            int order = tape.kind - '<';
            if (order < 0 || order > 2) {
                return tape.refuse(1);
            }
            tape.step();
            if (tape.kind != Tape.NUMBER) {
                return tape.refuse(1);
            }
            addStep(kind + order, tape.number);
            tape.step();
            return true;
        }

        private static int kindOf(Tape tape) {
            if (tape.isWord(Word.NOT)) {
                return NOT;
            }
            if (tape.isWord(Word.IN)) {
                return IN;
            }
            if (tape.isWord(Word.SURE)) {
                return SURE;
            }
            if (tape.isWord(Word.LIKE)) {
                return LIKE;
            }
            if (tape.isWord(Word.NOTES)) {
                return MEASURE;
            }
            if (tape.isWord(Word.HIGH)) {
                return MEASURE + 3;
            }
            if (tape.isWord(Word.LOW)) {
                return MEASURE + 6;
            }
            return tape.isWord(Word.BEATS) ? MEASURE + 9 : NONE;
        }

        private void addStep(int kind, int value) {
            put(kinds, steps, kind);
            put(values, steps, value);
            steps++;
        }

        /** The tunes of which it may be said. */
        int holding(Studio studio) {
            int top = 0;
            for (int i = 0; i < steps && i < MOST_STEPS; i++) {
                int kind = kinds[i];
                if (kind == NOT) {
                    put(stack, top - 1, studio.allTunes() & ~at(stack, top - 1));
                } else if (kind == AND || kind == OR) {
                    int first = at(stack, top - 2);
                    int second = at(stack, top - 1);
                    top--;
                    put(stack, top - 1, kind == AND ? first & second : first | second);
                } else {
                    put(stack, top, oneSet(studio, kind, values[i]));
                    top++;
                }
            }
            return at(stack, 0);
        }

        private static int oneSet(Studio studio, int kind, int value) {
            if (kind == IN) {
                return studio.setOf(value);
            }
            if (kind == LIKE) {
                return studio.likes(value, LIKE_NOTES, 0, studio.allTunes());
            }
            int found = 0;
            for (int x = 0; x < studio.tunes; x++) {
                boolean holds = kind == SURE ? studio.ninth(value, x) == NINE : holdsMeasure(studio, x, kind, value);
                found |= holds ? 1 << x : 0;
            }
            return found;
        }

        private static boolean holdsMeasure(Studio studio, int x, int kind, int value) {
            int what = (kind - MEASURE) / 3;
            int order = (kind - MEASURE) % 3 - 1;
            return Integer.compare(studio.measure(x, what), value) == order;
        }
    }

    /** The lines of an evening, and how far they went well. */
    private static final class Evening {
        static final int MOST_BYTES = 400;
        static final int MOST_LINES = 128;
        static final int WRONG = 0;
        static final int BID = 1;
        static final int BIDDER = 2;
        static final int NAMER = 3;
        static final int SPEAKER = 4;

        final int[] speakers = new int[MOST_LINES];
        // A bid, or 0 for NAME IT.
        final int[] words = new int[MOST_LINES];
        final int[] state = new int[5];
        int lines;
        int clueRead;
        int clue;
        int serial;
        boolean any;

        boolean read(Tape tape, Studio studio) {
            lines = 0;
            tape.open(MOST_BYTES);
            if (!tape.isWord(Word.CLUE)) {
                return tape.refuse(1);
            }
            tape.step();
            clueRead = tape.seek(studio.clueNames, studio.clues);
            if (clueRead == NONE) {
                return false;
            }
            tape.step();
            boolean going = tape.takeSign(';');
            for (int i = 0; i < MOST_BYTES && going && tape.kind != Tape.END; i++) {
                going = readLine(tape, studio) && tape.takeSign(';');
            }
            return going;
        }

        private boolean readLine(Tape tape, Studio studio) {
            int p = tape.seek(studio.personNames, studio.persons);
            if (p == NONE) {
                return false;
            }
            tape.step();
            boolean names = tape.isWord(Word.NAME);
            if (!names && !tape.needNumber(1, MOST_BID)) {
                return false;
            }
            put(speakers, lines, p);
            put(words, lines, names ? 0 : tape.number);
            lines++;
            tape.step();
            return true;
        }

        /** The line that is wrong, that of the clue counted, or NONE. */
        int judge(Studio studio) {
            any = true;
            clue = clueRead;
            serial = studio.serial;
            state[WRONG] = 0;
            state[BID] = 0;
            state[BIDDER] = NONE;
            state[NAMER] = NONE;
            state[SPEAKER] = NONE;
            int earlier = NONE;
            for (int i = 0; i < lines; i++) {
                int p = at(speakers, i);
                int bid = at(words, i);
                state[WRONG] = whyWrong(p, bid, studio.from);
                if (state[WRONG] != 0) {
                    return i + 1;
                }
                if (bid == 0) {
                    state[NAMER] = p;
                    state[SPEAKER] = NONE;
                } else {
                    state[BID] = bid;
                    state[BIDDER] = p;
                    state[SPEAKER] = earlier;
                    earlier = p;
                }
            }
            return NONE;
        }

        private int whyWrong(int p, int bid, int from) {
            if (state[NAMER] != NONE) {
                return 1;
            }
            boolean another = state[SPEAKER] == NONE ? p == state[BIDDER] : p != state[SPEAKER];
            if (another) {
                return 2;
            }
            if (bid == 0) {
                return state[BID] == 0 ? 4 : 0;
            }
            boolean tooHigh = state[BID] == 0 ? bid > from : bid >= state[BID];
            return tooHigh ? 3 : 0;
        }

        boolean isNaming() {
            return any && state[WRONG] == 0 && state[NAMER] != NONE;
        }

        int bidder() {
            return state[BIDDER];
        }

        int bid() {
            return state[BID];
        }
    }

    /** One person's chances to name tunes that sound alike so far. */
    private static final class Ear {
        final int[] ninths = new int[MOST_TUNES];
        // For each tune those left that sound like it, itself among them.
        final int[] groups = new int[MOST_TUNES];
        final long[] ways = new long[MOST_TUNES];
        int left;

        void group(Studio studio, int n, int set) {
            left = set;
            for (int x = 0; x < groups.length; x++) {
                groups[x] = has(set, x) ? studio.likes(x, n, 0, set) : 0;
            }
        }

        void listen(Studio studio, int p, int sure) {
            for (int x = 0; x < ninths.length; x++) {
                ninths[x] = has(sure, x) ? NINE : studio.ninth(p, x);
            }
        }

        /** By what odds she names this tune right, of WHOLE. */
        long right(int x) {
            int group = at(groups, x);
            int others = 0;
            for (int j = 0; j < ways.length; j++) {
                ways[j] = j == 0 ? 1 : 0;
            }
            for (int y = 0; y < ninths.length; y++) {
                if (y != x && has(group, y)) {
                    others++;
                    addOther(ninths[y]);
                }
            }
            long sum = 0;
            for (int j = 0; j < ways.length; j++) {
                sum += ways[j] * at(SHARES, j);
            }
            return at(ninths, x) * sum * at(NINES, MOST_TUNES - 1 - others);
        }

        private void addOther(int known) {
            for (int j = ways.length - 1; j >= 0; j--) {
                ways[j] = ways[j] * (NINE - known) + at(ways, j - 1) * known;
            }
        }

        /** Her odds over all tunes left, of WHOLE: of each group she names one right as often as she knows any. */
        long chance() {
            long sum = 0;
            for (int x = 0; x < groups.length; x++) {
                if (has(left, x) && isLeast(groups[x], x)) {
                    sum += knowsAny(groups[x]);
                }
            }
            return sum * at(SHARES, Integer.bitCount(left) - 1);
        }

        private long knowsAny(int group) {
            long none = 1;
            int tunes = 0;
            for (int y = 0; y < ninths.length; y++) {
                if (has(group, y)) {
                    none *= NINE - ninths[y];
                    tunes++;
                }
            }
            return (at(NINES, tunes) - none) * at(NINES, MOST_TUNES - tunes);
        }
    }

    /** Two who bid down: for each side what to do behind a bid of the other one (0: none yet), and its worth. */
    private static final class Duel {
        static final int SIDE = MOST_BID + 1;

        final long[] chances = new long[2 * SIDE];
        final long[] values = new long[2 * SIDE];
        final int[] moves = new int[2 * SIDE];

        void hear(Studio studio, Ear ear, int p, int q, int set) {
            for (int n = 1; n <= MOST_BID; n++) {
                ear.group(studio, n, set);
                ear.listen(studio, p, 0);
                put(chances, n, ear.chance());
                ear.listen(studio, q, 0);
                put(chances, SIDE + n, ear.chance());
            }
        }

        void doBest(int from) {
            for (int n = 1; n <= MOST_BID; n++) {
                speakBest(0, n, n - 1);
                speakBest(1, n, n - 1);
            }
            speakBest(0, 0, from);
            speakBest(1, 0, from);
        }

        private void speakBest(int side, int n, int most) {
            int other = (1 - side) * SIDE;
            long value = n > 0 ? WHOLE - at(chances, other + n) : -1;
            int move = 0;
            for (int bid = most; bid > 0; bid--) {
                long after = WHOLE - at(values, other + bid);
                if (after > value) {
                    value = after;
                    move = bid;
                }
            }
            put(values, side * SIDE + n, value);
            put(moves, side * SIDE + n, move);
        }

        /** The first side does best against the second one's rule. */
        void doAgainst(int from, int dare) {
            for (int n = 1; n <= MOST_BID; n++) {
                speakAgainst(n, n - 1, dare);
            }
            speakAgainst(0, from, dare);
        }

        private void speakAgainst(int n, int most, int dare) {
            long value = n > 0 ? WHOLE - at(chances, SIDE + n) : -1;
            int move = 0;
            for (int bid = most; bid > 0; bid--) {
                boolean goesOn = bid > 1 && reaches(at(chances, SIDE + bid - 1), dare);
                long after = goesOn ? at(values, bid - 1) : at(chances, bid);
                if (after > value) {
                    value = after;
                    move = bid;
                }
            }
            put(values, n, value);
            put(moves, n, move);
        }

        long value(int side, int n) {
            return at(values, side * SIDE + n);
        }

        int move(int side, int n) {
            return at(moves, side * SIDE + n);
        }

        /** The bid behind which it is NAME IT, if the first side speaks first. */
        int lastBid() {
            int side = 0;
            int last = 0;
            int bid = move(0, 0);
            for (int i = 0; i < MOST_BID && bid > 0; i++) {
                last = bid;
                side = 1 - side;
                bid = move(side, bid);
            }
            return last;
        }
    }

    /** A night of two persons, drawn by a seed. */
    private static final class Night {
        static final int MOST_ROUNDS = 5;

        final int[] persons = new int[2];
        final int[] points = new int[2];
        final int[] known = new int[2];
        int seed;
        int rounds;
        int rights;
        int least;

        void spend(Studio studio, int p, int q, int firstSeed) {
            persons[0] = p;
            persons[1] = q;
            points[0] = 0;
            points[1] = 0;
            seed = firstSeed;
            rounds = 0;
            rights = 0;
            least = MOST_BID;
            for (int i = 0; i < MOST_ROUNDS && points[0] < POINTS && points[1] < POINTS; i++) {
                spendRound(studio, i % 2);
                rounds++;
            }
        }

        boolean firstWins() {
            return points[0] >= POINTS;
        }

        private void spendRound(Studio studio, int first) {
            int set = studio.setOf(draw(studio.clues));
            int x = drawTune(set);
            drawKnown(studio, 0, set);
            drawKnown(studio, 1, set);
            int bid = studio.from;
            int bidder = first;
            for (int i = 0; i < MOST_BID && wouldBid(studio, 1 - bidder, x, bid - 1); i++) {
                bid--;
                bidder = 1 - bidder;
            }
            least = Math.min(least, bid);
            int likes = studio.likes(x, bid, 0, at(known, bidder));
            boolean right = likes != 0 && drawTune(likes) == x;
            rights += right ? 1 : 0;
            int winner = right ? bidder : 1 - bidder;
            put(points, winner, at(points, winner) + 1);
        }

        private void drawKnown(Studio studio, int side, int set) {
            int found = 0;
            for (int x = 0; x < MOST_TUNES; x++) {
                if (has(set, x) && draw(NINE) < studio.ninth(at(persons, side), x)) {
                    found |= 1 << x;
                }
            }
            put(known, side, found);
        }

        private boolean wouldBid(Studio studio, int side, int x, int n) {
            int mine = at(known, side);
            if (n < 1 || !has(mine, x)) {
                return false;
            }
            int others = Integer.bitCount(studio.likes(x, n, 0, mine)) - 1;
            return others <= NINE - at(studio.daring, at(persons, side));
        }

        private int drawTune(int set) {
            return nth(set, draw(Integer.bitCount(set)));
        }

        private int draw(int n) {
            seed = seed * 1103515245 + 12345;
            return n > 0 ? (seed >>> 8) % n : 0;
        }
    }

    /** The latest eight changes: of each the person, and what she knew and dared ahead of it. */
    private static final class Journal {
        static final int MOST = 8;
        static final int WIDE = MOST_TUNES + 2;

        final int[] rows = new int[MOST * WIDE];
        int size;

        void keep(Studio studio, int p) {
            if (size >= MOST) {
                for (int i = 0; i + WIDE < rows.length; i++) {
                    rows[i] = rows[i + WIDE];
                }
                size = MOST - 1;
            }
            int start = size * WIDE;
            for (int x = 0; x < MOST_TUNES; x++) {
                put(rows, start + x, studio.ninth(p, x));
            }
            put(rows, start + MOST_TUNES, at(studio.daring, p));
            put(rows, start + MOST_TUNES + 1, p);
            size++;
        }

        void takeBack(Studio studio) {
            size--;
            int start = size * WIDE;
            int p = at(rows, start + MOST_TUNES + 1);
            for (int x = 0; x < MOST_TUNES; x++) {
                studio.setNinth(p, x, at(rows, start + x));
            }
            put(studio.daring, p, at(rows, start + MOST_TUNES));
        }
    }

    /** The text made last. */
    private static final class Text {
        static final int MOST = 200;

        final int[] signs = new int[MOST];
        int size;

        void clear() {
            size = 0;
        }

        void addSign(int sign) {
            put(signs, size, sign);
            size++;
        }

        void addWord(String letters) {
            for (int i = 0; i < letters.length(); i++) {
                addSign(letters.charAt(i));
            }
        }

        void addName(long code) {
            for (int shift = 5 * (Tape.LETTERS - 1); shift >= 0; shift -= 5) {
                int letter = (int) (code >>> shift & 31);
                if (letter > 0) {
                    addSign('a' - 1 + letter);
                }
            }
        }

        void addNumber(int number) {
            if (number >= 10) {
                addSign('0' + number / 10);
            }
            addSign('0' + number % 10);
        }
    }
}
