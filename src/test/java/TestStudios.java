/** Studios that many tests use. */
final class TestStudios {
    /** That of the tests that came with the document. */
    static final String SMALL = "tune x 5 2 7 1 9 1;tune y 5 2 7 1 4 3;tune z 6 2 8 1;clue c x y;clue d x y z;person a;person b;"
            + "knows a x 9;knows a y 9;knows b x 3;dare b 2;from 4;";

    /**
     * As many of all as may be. Tune i has i + 1 notes, all the same, so that by n notes it is like those that have n or
     * more. The first person knows all for sure, the second and the fourth none, the third all by 5 of 9, the fifth the
     * last tune alone.
     */
    static final String FULL = full();

    private TestStudios() {
    }

    private static String full() {
        StringBuilder text = new StringBuilder();
        for (char x = 'a'; x <= 'i'; x++) {
            text.append("tune t").append(x).append(" 5 2".repeat(x - 'a' + 1)).append(';');
        }
        text.append("clue ca ti th tg tf te td tc tb ta;clue cb ta;clue cc ti;clue cd ta ti;clue ce ti th;clue cf ta tb tc td;");
        for (char p = 'a'; p <= 'e'; p++) {
            text.append("person p").append(p).append(';');
        }
        for (char x = 'a'; x <= 'i'; x++) {
            text.append("knows pa t").append(x).append(" 9;knows pc t").append(x).append(" 5;");
        }
        return text.append("knows pe ti 9;dare pe 9;").toString();
    }
}
