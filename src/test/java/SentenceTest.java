import java.util.ArrayList;
import java.util.List;

/** Promises 55 and 56: what may be said of which tune. */
public final class SentenceTest {
    private static final String STUDIO = "tune x 5 2 7 1 9 1;tune y 5 2 7 1 4 3;tune z 24 2;tune u 5 2 7 1 9 1 0 1;"
            + "clue c x y;clue d z;person a;person b;knows a x 9;knows a y 8;knows b z 9;";
    private static final String[] LEAVES = {"in c", "in d", "sure a", "sure b", "like x", "like z", "notes = 3",
        "notes>1", "high<9", "high=24", "low >4", "low< 5", "beats=4", "beats>4", "beats<99"};
    private static final int[] HOLDING = {3, 4, 1, 4, 9, 4, 3, 11, 2, 4, 5, 10, 1, 10, 15};

    public static void main(String[] args) {
        leaves();
        joined();
        changing();
        faults();
        counts();
        drawn();
        Check.end();
    }

    private static void said(NameNotes notes, String text, int ones, int set) {
        Check.due("sentence '" + text + "'", Check.sentence(notes, text), ones);
        Check.due("fault of '" + text + "'", notes.fault(), 0);
        Check.due("tape behind it", notes.count(4), 0);
        Check.due("said of '" + text + "'", notes.said(-1), Integer.bitCount(set));
        int k = 0;
        for (int x = 0; x < 9; x++) {
            if ((set >> x & 1) == 1) {
                Check.due("said(" + k + ") of '" + text + "'", notes.said(k), x);
                k++;
            }
        }
        Check.due("said behind the last", notes.said(k), -1);
        Check.due("said(-2)", notes.said(-2), -1);
    }

    private static void leaves() {
        NameNotes notes = Check.told(STUDIO);
        Check.due("no sentence", notes.said(-1), -1);
        Check.due("no sentence", notes.said(0), -1);
        for (int i = 0; i < LEAVES.length; i++) {
            said(notes, LEAVES[i], 1, HOLDING[i]);
        }
    }

    private static void joined() {
        NameNotes notes = Check.told(STUDIO);
        said(notes, "not in c", 2, 12);
        said(notes, "not not in c", 3, 3);
        said(notes, "not in c and not in d", 4, 8);
        said(notes, "in d or in c and sure a", 3, 5);
        said(notes, "in c and sure a or in d", 3, 5);
        said(notes, "(in d or in c) and sure a", 4, 1);
        said(notes, "not (in d or in c)", 4, 8);
        said(notes, "not in d or in c", 3, 11);
        said(notes, "in c or in d or like x", 3, 15);
        said(notes, "((((((((in c))))))))".substring(1, 19), 8, 3);
        said(notes, "not not not not not not not in c", 8, 12);
        NameNotes empty = new NameNotes();
        said(empty, "notes>0", 1, 0);
    }

    private static void changing() {
        NameNotes notes = Check.told(STUDIO);
        said(notes, "sure a", 1, 1);
        notes.teach(0, 1, 9);
        Check.due("said by what is known now", notes.said(-1), 2);
        notes.undo();
        Check.due("said by what is known now", notes.said(-1), 1);
        Check.due("a fault", Check.sentence(notes, "in"), -3);
        Check.due("it stays", notes.said(-1), 1);
        Check.studio(notes, "tune");
        Check.due("it stays behind a fault of a studio", notes.said(-1), 1);
        Check.studio(notes, STUDIO);
        Check.due("a new studio has none", notes.said(-1), -1);
    }

    private static void faulty(String text, int kind, int place) {
        NameNotes notes = Check.told(STUDIO);
        Check.due("sentence '" + text + "'", Check.sentence(notes, text), -1 - place);
        Check.due("fault of '" + text + "'", notes.fault(), kind);
        Check.due("tape behind it", notes.count(4), 0);
        Check.due("no sentence behind it", notes.said(-1), -1);
    }

    private static void faults() {
        faulty("", 1, 0);
        faulty("  ", 1, 2);
        faulty("c", 1, 0);
        faulty("in", 1, 2);
        faulty("in tune", 1, 3);
        faulty("in 3", 1, 3);
        faulty("in x", 3, 3);
        faulty("in q", 3, 3);
        faulty("sure x", 3, 5);
        faulty("like c", 3, 5);
        faulty("in c;", 1, 4);
        faulty("in c in d", 1, 5);
        faulty("in c)", 1, 4);
        faulty("(in c", 1, 5);
        faulty("()", 1, 1);
        faulty("in c and", 1, 8);
        faulty("in c or or in d", 1, 8);
        faulty("and in c", 1, 0);
        faulty("not", 1, 3);
        faulty("high 3", 1, 5);
        faulty("high ( 3", 1, 5);
        faulty("high =x", 1, 6);
        faulty("high =123", 1, 6);
        faulty("high ==3", 1, 6);
        faulty("name = 3", 1, 0);
        faulty("in c and in q", 3, 12);
        Check.due("200 bytes", Check.sentence(Check.told(STUDIO), "in c" + " ".repeat(196)), 1);
        faulty("in c" + " ".repeat(197), 1, 200);
        faulty("in c" + " ".repeat(195) + "and in q", 1, 200);
        faulty("in c" + " ".repeat(195) + "in", 1, 199);
        faulty("in" + " ".repeat(197) + "qqq", 3, 199);
    }

    private static void counts() {
        String twenty = "in c" + " or in c".repeat(19);
        said(Check.told(STUDIO), twenty, 20, 3);
        faulty(twenty + " or in c", 4, twenty.length() + 4);
        faulty(twenty + " or x", 1, twenty.length() + 4);
        faulty(twenty + " or (in c)", 4, twenty.length() + 4);
        faulty(twenty + " or in q", 4, twenty.length() + 4);
        faulty("not ".repeat(8) + "in c", 4, 32);
        faulty("(".repeat(8) + "in c" + ")".repeat(8), 4, 8);
        faulty("(".repeat(9), 4, 8);
        faulty("not ".repeat(8) + "c", 1, 32);
        faulty("not(not(not(not(in c", 4, 16);
    }

    /** Sentences drawn with the set that each is due to hold of. */
    private static void drawn() {
        Slow slow = new Slow(9);
        NameNotes notes = Check.told(STUDIO);
        List<String> texts = new ArrayList<>();
        List<int[]> dues = new ArrayList<>();
        for (int i = 0; i < LEAVES.length; i++) {
            texts.add(LEAVES[i]);
            dues.add(new int[] {HOLDING[i], 1, 1});
        }
        for (int i = 0; i < 3000; i++) {
            int first = slow.draw(texts.size());
            int second = slow.draw(texts.size());
            int[] mine = dues.get(first);
            int[] yours = dues.get(second);
            int kind = slow.draw(3);
            String text = kind == 0 ? "not (" + texts.get(first) + ")"
                    : "(" + texts.get(first) + ") " + (kind == 1 ? "and" : "or") + " (" + texts.get(second) + ")";
            int set = kind == 0 ? 15 & ~mine[0] : kind == 1 ? mine[0] & yours[0] : mine[0] | yours[0];
            int ones = kind == 0 ? mine[1] + 2 : mine[1] + yours[1] + 2;
            int depth = kind == 0 ? mine[2] + 2 : Math.max(mine[2], yours[2]) + 1;
            if (text.length() <= 200 && ones <= 20 && depth <= 8) {
                said(notes, text, ones, set);
                texts.add(text);
                dues.add(new int[] {set, ones, depth});
            }
        }
    }
}
