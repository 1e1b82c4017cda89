/** Promises 53 and 54: a tune as a text, byte by byte. */
public final class TextTest {
    public static void main(String[] args) {
        NameNotes notes = Check.told("tune x 5 2 07 1 24 9;tune y 0 1;tune z 10 1 24 9 24 9 24 9 24 9 24 9 24 9 24 9 24 9;"
                + "clue abcdefg x;person hijklmn;person o;person p;person q;");
        Check.due("no text yet", notes.byteAt(0), -1);
        Check.due("write", notes.write(0), 12);
        Check.due("text", Check.text(notes), "5 2 7 1 24 9");
        Check.due("write of none", notes.write(3), -1);
        Check.due("write of none", notes.write(-1), -1);
        Check.due("the text made last stays", Check.text(notes), "5 2 7 1 24 9");
        Check.due("byteAt(-1)", notes.byteAt(-1), -1);
        Check.due("byteAt(12)", notes.byteAt(12), -1);
        Check.due("byteAt(11)", notes.byteAt(11), '9');
        Check.due("byteAt of the greatest", notes.byteAt(Integer.MAX_VALUE), -1);
        Check.due("write", notes.write(1), 3);
        Check.due("text", Check.text(notes), "0 1");
        Check.due("nothing of the last one", notes.byteAt(3), -1);
        Check.due("the longest tune", notes.write(2), 44);
        Check.due("text", Check.text(notes), "10 1" + " 24 9".repeat(8));
        int size = notes.play(0, 1, 0);
        Check.due("a play is a text, too", Check.text(notes).length(), size);
        Check.due("with its names", Check.text(notes).startsWith("clue abcdefg;hijklmn 9;"), true);
        Check.studio(notes, "tune k 1 1;");
        Check.due("the text stays behind a new studio", Check.text(notes).length(), size);
        Check.end();
    }
}
