/** Promises 1 to 3 and 59: a new object, the tape. */
public final class TapeTest {
    public static void main(String[] args) {
        newObject();
        tape();
        Check.end();
    }

    private static void newObject() {
        NameNotes notes = new NameNotes();
        Check.due("NONE", NameNotes.NONE, -1);
        for (int what = 0; what < 3; what++) {
            Check.due("count of a new object", notes.count(what), 0);
        }
        Check.due("from of a new object", notes.count(3), 9);
        Check.due("bytes of a new object", notes.count(4), 0);
        Check.due("count(5)", notes.count(5), -1);
        Check.due("count(-1)", notes.count(-1), -1);
        Check.due("fault ahead of any", notes.fault(), 0);
        Check.due("byteAt ahead of any text", notes.byteAt(0), -1);
        Check.due("heard ahead of any", notes.heard(0), -1);
        Check.due("nightly ahead of any", notes.nightly(0), -1);
        Check.due("studio of an empty tape", notes.studio(), 0);
    }

    private static void tape() {
        NameNotes notes = new NameNotes();
        for (int i = 1; i <= 47; i++) {
            Check.due("feed", notes.feed(0, 0, 0, 0, 0), 20 * i);
        }
        Check.due("feed on a full tape", notes.feed(0, 0, 0, 0, 0), -1);
        Check.due("bytes of a full tape", notes.count(4), 940);
        Check.due("end(941)", notes.end(941), false);
        Check.due("end(-1)", notes.end(-1), false);
        Check.due("end(940)", notes.end(940), true);
        Check.due("end(921)", notes.end(921), true);
        Check.due("feed with no room for twenty", notes.feed(0, 0, 0, 0, 0), -1);
        Check.due("end(920)", notes.end(920), true);
        Check.due("feed with room for just twenty", notes.feed(0, 0, 0, 0, 0), 940);
        Check.due("end(0)", notes.end(0), true);
        Check.due("end(1) of an empty tape", notes.end(1), false);
        Check.due("bytes of an empty tape", notes.count(4), 0);
        // 'from 3;' with the highest byte of each number first
        Check.due("feed", notes.feed(0x66726f6d, 0x20333b00, 0, 0, 0), 20);
        Check.due("end(7)", notes.end(7), true);
        Check.due("studio", notes.studio(), 1);
        Check.due("from", notes.count(3), 3);
        Check.due("bytes behind studio", notes.count(4), 0);
    }
}
