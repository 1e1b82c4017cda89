import java.util.Random;

/** An object that has read other texts before answers as a new one does: nothing of them is left. */
public final class AfreshTest {
    private static final String[] STUDIOS = {TestStudios.SMALL, TestStudios.FULL, "", "from 2;", "tune x 5 2;person a;person b;clue c x;",
        "tune x 5 2;tune y 5 2 0 1;tune z 5 2 0 9 0 1;clue c z x;person b;person a;knows a z 9;dare b 9;",
        "tune z 0 1 0 1 0 1;tune y 0 1 0 1;clue d y;clue c y z;person a;person e;person b;dare a 0;from 7;"};
    private static final String[] EVENINGS = {"clue c;", "clue c;a 1;b name;", "clue c;b 1;", "clue c;a 2;b 1;", "clue c;a name;",
        "clue c;a 9;a 8;", "clue c;a 1;b 1;", "clue c;b 1;a name;a name;"};
    private static final String[] SENTENCES = {"in c", "sure a", "not not (in c or notes>1)", "low=0 and in c or sure b", "beats>3",
        "high=5 or low=5 or notes=3"};

    private AfreshTest() {
    }

    public static void main(String[] args) {
        Random random = new Random(3);
        for (int run = 0; run < 3000; run++) {
            NameNotes used = new NameNotes();
            for (int i = random.nextInt(6); i > 0; i--) {
                use(used, random);
            }
            afresh(used, random);
        }
        Check.end();
    }

    private static void use(NameNotes notes, Random random) {
        Check.studio(notes, spoilt(STUDIOS, random));
        Check.sentence(notes, spoilt(SENTENCES, random));
        Check.evening(notes, spoilt(EVENINGS, random));
        notes.teach(random.nextInt(3), random.nextInt(3), random.nextInt(10));
        notes.dares(random.nextInt(3), random.nextInt(10));
        notes.copies(random.nextInt(3), random.nextInt(3));
        notes.image(random.nextInt(2));
        notes.night(0, 1, random.nextInt());
        notes.learn(0, 2, 0, 3);
        notes.best(1, 0, 0, 0);
        notes.reply(1, 0, 0, 0);
        notes.play(1, 0, 0);
        notes.restore(random.nextInt(2));
    }

    private static String spoilt(String[] texts, Random random) {
        String text = texts[random.nextInt(texts.length)];
        return random.nextInt(3) == 0 ? text.substring(0, random.nextInt(text.length() + 1)) : text;
    }

    private static void afresh(NameNotes used, Random random) {
        NameNotes fresh = new NameNotes();
        String studio = STUDIOS[random.nextInt(STUDIOS.length)];
        String evening = EVENINGS[random.nextInt(EVENINGS.length)];
        String sentence = SENTENCES[random.nextInt(SENTENCES.length)];
        Check.due("studio", Check.studio(used, studio), Check.studio(fresh, studio));
        Check.due("sentence", Check.sentence(used, sentence), Check.sentence(fresh, sentence));
        boolean heard = Check.evening(fresh, evening) >= -1;
        Check.due("evening", Check.evening(used, evening), heard ? Check.evening(fresh, evening) : -2 - 5);
        if (random.nextBoolean()) {
            used.image(1);
            Check.studio(used, STUDIOS[random.nextInt(STUDIOS.length)]);
            used.restore(1);
        }
        if (heard) {
            for (int what = 0; what < 5; what++) {
                Check.due("heard", used.heard(what), fresh.heard(what));
            }
            Check.due("told", Check.tried(() -> used.told(0)), Check.tried(() -> fresh.told(0)));
        }
        Check.due("all answers", answers(used), answers(fresh));
    }

    private static String answers(NameNotes notes) {
        StringBuilder all = new StringBuilder();
        for (int what = 0; what < 5; what++) {
            add(all, notes.count(what), notes.nightly(what) >= -1 ? 0 : 1, notes.rank(what, 3), notes.said(what - 1));
        }
        for (int x = 0; x < 9; x++) {
            for (int i = 0; i < 9; i++) {
                add(all, notes.note(x, i, 0), notes.note(x, i, 1), notes.when(x, i), notes.apart(x, i), notes.tune(x, i));
                add(all, notes.alike(x, i, 0), notes.alike(x, i, 1), notes.alike(x, i, 2), notes.alike(x, i, 3));
            }
            add(all, notes.nearest(x, -1), notes.enough(x, 0, -1), notes.begins(x, 2, 1, -1));
        }
        for (int c = 0; c < 6; c++) {
            add(all, notes.clue(c), notes.hardest(0, c), notes.parts(3, 2, c), notes.ablest(3, c));
            for (int p = 0; p < 5; p++) {
                add(all, notes.knows(p, c), notes.dare(p), notes.needs(p, 3, c), notes.lessons(p, 2, c, 4));
                add(all, notes.best(p, c, 0, 0), notes.reply(p, c, 3, 0), notes.fair(p, c, 0), notes.low(p, c, 0));
            }
        }
        add(all, notes.commonest(), notes.cover(), notes.undo(), notes.nights(0, 1, 9, 5), notes.lowest(1, 0));
        add(all, notes.play(1, 0, 0) + 2 * notes.write(0));
        return all.append(notes.write(0) >= 0 ? Check.text(notes) : "").toString();
    }

    private static void add(StringBuilder all, int... answers) {
        for (int answer : answers) {
            all.append(' ').append(answer);
        }
    }
}
