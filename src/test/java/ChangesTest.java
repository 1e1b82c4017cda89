import java.util.ArrayDeque;
import java.util.Deque;

/** Promises 32 to 34, 39, 57 and 58: what persons learn and forget, what is undone, images. */
public final class ChangesTest {
    private static final String STUDIO = "tune x 5 2;tune y 5 3;tune z 1 1;clue c x y z;person a;person b;"
            + "knows a x 9;knows a y 4;dare b 2;from 6;";

    public static void main(String[] args) {
        teaches();
        copies();
        undoes();
        keepsEight();
        journalAgainstPlainOne();
        images();
        newStudio();
        wrongInputs();
        Check.end();
    }

    private static void teaches() {
        NameNotes notes = Check.told(STUDIO);
        Check.due("teach", notes.teach(0, 2, 9), true);
        Check.due("knows", notes.knows(0, 2), 9);
        Check.due("teach what she does already", notes.teach(0, 2, 9), false);
        Check.due("teach nothing new", notes.teach(1, 0, 0), false);
        Check.due("forget", notes.teach(0, 0, 0), true);
        Check.due("knows", notes.knows(0, 0), 0);
        Check.due("others stay", notes.knows(0, 1), 4);
        Check.due("dares", notes.dares(0, 0), true);
        Check.due("dare", notes.dare(0), 0);
        Check.due("dares already", notes.dares(0, 0), false);
        Check.due("dare of the other one", notes.dare(1), 2);
        Ratio.of(13, 27).due("odds by what is known now", notes.odds(0, 2, 0, 0), notes.odds(0, 2, 0, 1));
    }

    private static void copies() {
        NameNotes notes = Check.told(STUDIO);
        Check.due("copies", notes.copies(1, 0), 2);
        Check.due("knows x", notes.knows(1, 0), 9);
        Check.due("knows y", notes.knows(1, 1), 4);
        Check.due("dare is not copied", notes.dare(1), 2);
        Check.due("copies nothing", notes.copies(0, 1), 0);
        Check.due("copies herself", notes.copies(0, 0), 0);
        Check.due("one to undo", notes.undo(), 0);
        Check.due("knows no x", notes.knows(1, 0), 0);
        Check.due("knows no y", notes.knows(1, 1), 0);
    }

    private static void undoes() {
        NameNotes notes = Check.told(STUDIO);
        Check.due("nothing to undo", notes.undo(), -1);
        notes.teach(0, 0, 3);
        notes.teach(0, 0, 3);
        notes.dares(1, 7);
        notes.teach(0, 0, 5);
        Check.due("undo", notes.undo(), 2);
        Check.due("knows", notes.knows(0, 0), 3);
        Check.due("undo", notes.undo(), 1);
        Check.due("dare", notes.dare(1), 2);
        Check.due("undo", notes.undo(), 0);
        Check.due("knows", notes.knows(0, 0), 9);
        Check.due("nothing to undo", notes.undo(), -1);
    }

    private static void keepsEight() {
        NameNotes notes = Check.told(STUDIO);
        for (int k = 1; k <= 9; k++) {
            notes.teach(1, 0, k);
        }
        for (int left = 7; left >= 0; left--) {
            Check.due("undo of eight", notes.undo(), left);
            Check.due("knows", notes.knows(1, 0), left + 1);
        }
        Check.due("the first one is not kept", notes.undo(), -1);
        Check.due("knows", notes.knows(1, 0), 1);
    }

    private static void journalAgainstPlainOne() {
        Slow slow = new Slow(77);
        NameNotes notes = slow.notes;
        int persons = slow.knows.length;
        int tunes = slow.tunes.length;
        Deque<int[]> kept = new ArrayDeque<>();
        for (int i = 0; i < 20000; i++) {
            int[] before = all(notes, persons, tunes);
            int p = slow.draw(persons);
            boolean done = false;
            switch (slow.draw(4)) {
                case 0:
                    done = notes.teach(p, slow.draw(tunes), slow.draw(10));
                    break;
                case 1:
                    done = notes.dares(p, slow.draw(10));
                    break;
                case 2:
                    done = slow.draw(4) == 0 && notes.copies(p, slow.draw(persons)) > 0;
                    break;
                default:
                    int[] due = kept.isEmpty() ? before : kept.removeLast();
                    int left = notes.undo();
                    Check.due("undo", left, due == before ? -1 : kept.size());
                    compare(all(notes, persons, tunes), due);
            }
            if (done) {
                kept.addLast(before);
                if (kept.size() > 8) {
                    kept.removeFirst();
                }
            }
        }
    }

    private static int[] all(NameNotes notes, int persons, int tunes) {
        int[] all = new int[persons * (tunes + 1)];
        for (int p = 0; p < persons; p++) {
            for (int x = 0; x < tunes; x++) {
                all[p * (tunes + 1) + x] = notes.knows(p, x);
            }
            all[p * (tunes + 1) + tunes] = notes.dare(p);
        }
        return all;
    }

    private static void compare(int[] got, int[] want) {
        for (int i = 0; i < got.length; i++) {
            Check.due("what is undone", got[i], want[i]);
        }
    }

    private static void images() {
        NameNotes notes = Check.told(STUDIO);
        Check.due("nothing is kept", notes.restore(0), false);
        Check.sentence(notes, "sure a");
        notes.teach(0, 1, 9);
        notes.dares(0, 1);
        Check.due("image", notes.image(0), true);
        Check.due("nothing is kept there", notes.restore(1), false);
        Check.due("undo behind an image", notes.undo(), 1);
        notes.teach(0, 0, 0);
        Check.sentence(notes, "not sure a");
        notes.write(2);
        Check.evening(notes, "clue c;a 5;");
        Check.feed(notes, "abc");
        Check.due("restore", notes.restore(0), true);
        Check.due("knows x", notes.knows(0, 0), 9);
        Check.due("knows y", notes.knows(0, 1), 9);
        Check.due("dare", notes.dare(0), 1);
        Check.due("said as then", notes.said(-1), 2);
        Check.due("nothing can be undone", notes.undo(), -1);
        Check.due("the tape stays", notes.count(4), 3);
        Check.due("the text stays", Check.text(notes), "1 1");
        Check.due("heard stays", notes.heard(1), 5);
        notes.end(0);
        Check.studio(notes, "tune k 1 1;");
        Check.due("image of another studio", notes.image(1), true);
        Check.due("restore the first one", notes.restore(0), true);
        Check.due("tunes", notes.count(0), 3);
        Check.due("clues", notes.clue(0), 7);
        Check.due("from", notes.count(3), 6);
        Check.due("alike as then", notes.alike(0, 1, 1), 9);
        Check.due("names as then", Check.evening(notes, "clue c;b 1;a name;"), -1);
        Check.due("restore the other one", notes.restore(1), true);
        Check.due("tunes", notes.count(0), 1);
        Check.due("clues", notes.count(1), 0);
        Check.due("from", notes.count(3), 9);
        Check.due("no sentence", notes.said(-1), -1);
        Check.due("image over another one", notes.image(0), true);
        Check.due("restore it", notes.restore(0), true);
        Check.due("tunes", notes.count(0), 1);
    }

    private static void newStudio() {
        NameNotes notes = Check.told(STUDIO);
        Check.sentence(notes, "in c");
        notes.teach(0, 0, 0);
        Check.studio(notes, STUDIO);
        Check.due("knows as told", notes.knows(0, 0), 9);
        Check.due("nothing can be undone", notes.undo(), -1);
        Check.due("no sentence", notes.said(-1), -1);
        NameNotes empty = new NameNotes();
        Check.due("image of the empty one", empty.image(1), true);
        Check.studio(empty, STUDIO);
        Check.due("restore it", empty.restore(1), true);
        Check.due("no tunes", empty.count(0), 0);
        Check.due("from", empty.count(3), 9);
    }

    private static void wrongInputs() {
        NameNotes notes = Check.told(STUDIO);
        for (int wrong : new int[] {-1, 10, Integer.MAX_VALUE, Integer.MIN_VALUE}) {
            Check.due("teach nobody", notes.teach(wrong, 0, 1), false);
            Check.due("teach no tune", notes.teach(0, wrong, 1), false);
            Check.due("teach too much", notes.teach(0, 0, wrong), false);
            Check.due("dares of nobody", notes.dares(wrong, 1), false);
            Check.due("dares too much", notes.dares(0, wrong), false);
            Check.due("copies of nobody", notes.copies(wrong, 0), -1);
            Check.due("copies nobody", notes.copies(0, wrong), -1);
            Check.due("image nowhere", notes.image(wrong), false);
            Check.due("restore nowhere", notes.restore(wrong), false);
        }
        Check.due("image(2)", notes.image(2), false);
        Check.due("restore(2)", notes.restore(2), false);
        Check.due("nothing was done", notes.undo(), -1);
    }
}
