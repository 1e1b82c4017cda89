/** The first part of the terms: tokens, studios, evenings, and their faults. */
final class TermsBounds {
    private static final String[] KEPT = {"tune", "clue", "person", "knows", "dare", "from", "name", "or", "and", "not",
        "in", "sure", "like", "notes", "high", "low", "beats"};
    private static final String[] NEAR = {"tun", "tunes", "clu", "clues", "perso", "persons", "know", "knowsa", "dar",
        "dares", "fro", "form", "nam", "names", "o", "orr", "an", "andy", "no", "nota", "i", "inn", "sur", "sures", "lik",
        "likes", "note", "notesa", "hig", "highs", "lo", "lows", "beat", "beatsa"};
    private static final String NINE_NOTES = "tune x 1 1 1 1 1 1 1 1 1 1 1 1 1 1 1 1 1 1";
    private static final String NINE_TUNES = "tune r 1 1;tune s 1 1;tune t 1 1;tune u 1 1;tune v 1 1;tune w 1 1;tune x 1 1;"
            + "tune y 1 1;tune z 1 1;";
    private static final String HEARD = "tune x 5 2;clue c x;person a;person b;";

    private TermsBounds() {
    }

    static void run() {
        words();
        runs();
        studios();
        tunes();
        clues();
        persons();
        names();
        counts();
        evenings();
        faultsAtEnds();
        faultsByOrder();
        faultsOfNames();
        faultsOfCounts();
    }

    private static void terms(String words, Runnable test) {
        Bound.holds("Terms", words, test);
    }

    private static void evening(String text, int kind, int place) {
        NameNotes notes = Check.told(HEARD);
        Check.due("evening '" + text + "'", Check.evening(notes, text), kind == 0 ? -1 : -2 - place);
        Check.due("fault of '" + text + "'", notes.fault(), kind);
    }

    private static void sentence(String text, int kind, int place) {
        NameNotes notes = Check.told(HEARD);
        int ones = Check.sentence(notes, text);
        Check.due("sentence '" + text + "'", kind == 0 ? ones > 0 ? 1 : 0 : ones, kind == 0 ? 1 : -1 - place);
        Check.due("fault of '" + text + "'", notes.fault(), kind);
    }

    private static void words() {
        terms("TOKENS of all texts, with blanks (32, 10) between them or not:", () -> {
            for (int b = 0; b < 256; b++) {
                afterWord((char) b);
                afterNumber((char) b);
                afterSign((char) b);
            }
            Check.fine("tune x 5 2;person a;from 4;", 3);
            Check.fine("\n  tune\n\nx \n 5 2\n;\nperson a ;\n", 2);
            evening("clue c;a 4;b name;", 0, 0);
            evening(" \nclue\nc ;\na  4\n; b name\n;\n", 0, 0);
            sentence("not(not(beats<9)and(in c))", 0, 0);
            sentence("\nnot ( not ( beats\n< 9 ) and ( in c ) ) ", 0, 0);
        });
        terms("WORDS: small letters, 1 to 7;", () -> {
            Check.fine("person a;person z;person aa;person az;person za;", 5);
            Check.fine("person abcdefg;person zzzzzzz;person aaaaaaa;person aaaaaa;", 4);
            Check.faulty("person abcdefgh;", 1, 7);
            Check.faulty("person zzzzzzzzzzzzzzzzzzzz;", 1, 7);
            Check.faulty("personss a;", 1, 0);
            Check.faulty("person A;", 1, 7);
            Check.faulty("Person a;", 1, 0);
            Check.faulty("person abcdefG;", 1, 13);
            evening("clue cccccccc;", 1, 5);
            sentence("in cccccccc", 1, 3);
        });
        terms("NUMBERS: 1 to 2 digits;", () -> {
            Check.fine("from 9;", 1);
            Check.fine("from 09;", 1);
            Check.faulty("from 009;", 1, 5);
            Check.faulty("from 100;", 1, 5);
            Check.faulty("from 4294967300;", 1, 5);
            Check.faulty("tune x 024 1;", 1, 7);
            evening("clue c;a 09;", 0, 0);
            evening("clue c;a 009;", 1, 9);
            sentence("beats=99", 0, 0);
            sentence("beats=099", 1, 6);
        });
        terms("; < = > ( ) .", () -> {
            for (char sign : ";<=>().".toCharArray()) {
                Check.faulty(sign + "tune x 5 2;", 1, 0);
                Check.faulty("tune x" + sign + "5 2;", 1, 6);
                Check.faulty("tune x 5" + sign + "2;", 1, 8);
            }
            for (char sign : "<=>().".toCharArray()) {
                Check.faulty("tune x 5 2" + sign, 1, 10);
            }
            for (char sign : "<=>".toCharArray()) {
                sentence("beats" + sign + "4", 0, 0);
                sentence("beats" + sign + sign + "4", 1, 6);
            }
            sentence("(in c)", 0, 0);
            sentence("beats(4", 1, 5);
            sentence("beats;4", 1, 5);
            sentence("beats.4", 1, 5);
        });
    }

    /** What a byte is behind a word: a blank, more of it, the end of the line, or a fault. */
    private static void afterWord(char b) {
        String text = "person a" + b + ";";
        if (b == ' ' || b == '\n' || b >= 'a' && b <= 'z') {
            Check.fine(text, 1);
        } else if (b == ';') {
            Check.faulty(text, 1, 9);
        } else {
            Check.faulty(text, 1, b >= '0' && b <= '9' ? 7 : 8);
        }
    }

    private static void afterNumber(char b) {
        String text = "from 4" + b + ";";
        if (b == ' ' || b == '\n') {
            Check.fine(text, 1);
        } else if (b >= '0' && b <= '9') {
            Check.faulty(text, 2, 5);
        } else if (b == ';') {
            Check.faulty(text, 1, 7);
        } else {
            Check.faulty(text, 1, b >= 'a' && b <= 'z' ? 5 : 6);
        }
    }

    private static void afterSign(char b) {
        String text = "from 4;" + b;
        if (b == ' ' || b == '\n') {
            Check.fine(text, 1);
        } else {
            Check.faulty(text, 1, 7);
        }
    }

    private static void runs() {
        terms("(A WORD, NUMBER goes on as long as small letters and digits do; what is not as told is no TOKEN.)", () -> {
            Check.faulty("tune x5 2;", 1, 5);
            Check.faulty("tunex 5 2;", 1, 0);
            Check.faulty("tune x 5x 2;", 1, 7);
            Check.faulty("tune x 5 2x;", 1, 9);
            Check.faulty("tune 5x 5 2;", 1, 5);
            Check.faulty("from 4from 4;", 1, 5);
            Check.faulty("from4;", 1, 0);
            Check.faulty("from 1a2;", 1, 5);
            Check.faulty("person a1b;", 1, 7);
            Check.faulty("person abcdefg1;", 1, 7);
            evening("clue c;a4;", 1, 7);
            evening("clue c;a 4b;", 1, 9);
            sentence("beats=4and in c", 1, 6);
            sentence("inc", 1, 0);
            sentence("in c1", 1, 3);
        });
    }

    private static void studios() {
        terms("A STUDIO is a text of at most 900 bytes:", () -> {
            Check.fine("person a;" + " ".repeat(891), 1);
            Check.fine(" ".repeat(891) + "person a;", 1);
            Check.faulty("person a;" + " ".repeat(892), 1, 900);
            Check.faulty(" ".repeat(892) + "person a;", 1, 900);
            Check.faulty("\n".repeat(940), 1, 900);
        });
        terms("{ LINE ; }.", () -> {
            Check.fine("", 0);
            Check.fine(" ", 0);
            Check.fine("person a;", 1);
            Check.faulty("person a", 1, 8);
            Check.faulty("person a;;", 1, 9);
            Check.faulty(";", 1, 0);
            Check.faulty("person a;person b", 1, 17);
            Check.faulty("a;", 1, 0);
            Check.faulty("name a;", 1, 0);
            Check.faulty("4;", 1, 0);
            StringBuilder most = new StringBuilder(NINE_TUNES + "from 9;");
            for (char c = 'a'; c <= 'f'; c++) {
                most.append("clue ").append(c).append(" x;");
            }
            for (char p = 'g'; p <= 'k'; p++) {
                most.append("person ").append(p).append(";dare ").append(p).append(" 0;");
                for (char x = 'r'; x <= 'z'; x++) {
                    most.append("knows ").append(p).append(' ').append(x).append(" 9;");
                }
            }
            Check.fine(most.toString(), 71);
        });
    }

    private static void tunes() {
        terms("LINE: 'tune' NAME P L { P L }", () -> {
            Check.fine("tune x 5 2;", 1);
            Check.fine("tune x 5 2 7 1;", 1);
            Check.faulty("tune;", 1, 4);
            Check.faulty("tune 5 2;", 1, 5);
            Check.faulty("tune x 5;", 1, 8);
            Check.faulty("tune x 5 2 7;", 1, 12);
            Check.faulty("tune x y;", 1, 7);
            Check.faulty("tune x 5 y;", 1, 9);
            Check.faulty("tune x 5 2 y;", 1, 11);
        });
        terms("(notes: PITCH 0 to 24,", () -> {
            for (int pitch = 0; pitch < 100; pitch++) {
                String text = "tune x " + pitch + " 1 ";
                if (pitch <= 24) {
                    Check.due("pitch", Check.told(text + ";").note(0, 0, 0), pitch);
                } else {
                    Check.faulty(text + ";", 2, 7);
                    Check.faulty("tune x 24 1 " + pitch + " 1;", 2, 12);
                }
            }
        });
        terms("LENGTH 1 to 9;", () -> {
            for (int length = 0; length < 100; length++) {
                String text = "tune x 5 " + length + ";";
                if (length >= 1 && length <= 9) {
                    Check.due("length", Check.told(text).note(0, 0, 1), length);
                } else {
                    Check.faulty(text, 2, 9);
                    Check.faulty("tune x 5 9 5 " + length + ";", 2, 13);
                }
            }
            Check.faulty("tune x 5 00;", 2, 9);
        });
        terms("1 to 9 of them)", () -> {
            Check.faulty("tune x;", 1, 6);
            Check.due("one note", Check.told("tune x 1 1;").tune(0, 0), 1);
            Check.due("nine notes", Check.told(NINE_NOTES + ";").tune(0, 0), 9);
            Check.faulty(NINE_NOTES + " 1 1;", 4, NINE_NOTES.length() + 1);
        });
    }

    private static void clues() {
        terms("| 'clue' NAME TUNE { TUNE } (each once in it; 9 at most)", () -> {
            Check.faulty("tune x 1 1;clue c;", 1, 17);
            Check.faulty("clue c;", 1, 6);
            Check.due("one tune", Check.told("tune x 1 1;tune y 1 1;clue c y;").clue(0), 2);
            Check.due("each once, twice in all", Check.told("tune x 1 1;clue c x;clue d x;").clue(1), 1);
            Check.due("nine tunes", Check.told(NINE_TUNES + "clue c z y x w v u t s r;").clue(0), 511);
            Check.faulty("tune x 1 1;tune y 1 1;clue c x y x;", 3, 33);
            Check.faulty("tune x 1 1;tune y 1 1;clue c y y;", 3, 31);
            Check.faulty("tune x 1 1;clue c x 1;", 1, 20);
        });
    }

    private static void persons() {
        terms("| 'person' NAME |", () -> {
            Check.fine("person a;", 1);
            Check.faulty("person;", 1, 6);
            Check.faulty("person 1;", 1, 7);
            Check.faulty("person a b;", 1, 9);
        });
        String known = "tune x 1 1;tune y 1 1;person a;person b;";
        terms("'knows' PERSON TUNE K (0 to 9: by K of 9; each two once; 0 without)", () -> {
            for (int k = 0; k < 100; k++) {
                String text = known + "knows a y " + k + ";";
                if (k <= 9) {
                    Check.due("knows", Check.told(text).knows(0, 1), k);
                } else {
                    Check.faulty(text, 2, known.length() + 10);
                }
            }
            Check.fine(known + "knows a x 1;knows a y 1;knows b x 1;knows b y 1;", 8);
            Check.faulty(known + "knows a x 0;knows a x 0;", 3, known.length() + 18);
            Check.faulty(known + "knows b y 1;knows a y 1;knows b y 2;", 3, known.length() + 30);
            NameNotes notes = Check.told(known + "knows a y 9;");
            Check.due("without", notes.knows(0, 0), 0);
            Check.due("without", notes.knows(1, 1), 0);
            Check.faulty(known + "knows a;", 1, known.length() + 7);
            Check.faulty(known + "knows a x;", 1, known.length() + 9);
        });
        terms("'dare' PERSON K (0 to 9; each PERSON once; 5 without)", () -> {
            for (int k = 0; k < 100; k++) {
                String text = "person a;dare a " + k + ";";
                if (k <= 9) {
                    Check.due("dare", Check.told(text).dare(0), k);
                } else {
                    Check.faulty(text, 2, 16);
                }
            }
            Check.fine("person a;person b;dare b 5;dare a 5;", 4);
            Check.faulty("person a;person b;dare b 5;dare b 5;", 3, 32);
            Check.due("without", Check.told("person a;person b;dare b 0;").dare(0), 5);
            Check.faulty("person a;dare a;", 1, 15);
        });
        terms("'from' N (1 to 9: the greatest bid; once; 9 without).", () -> {
            for (int n = 0; n < 100; n++) {
                String text = "from " + n + ";";
                if (n >= 1 && n <= 9) {
                    Check.due("from", Check.told(text).count(3), n);
                } else {
                    Check.faulty(text, 2, 5);
                }
            }
            Check.faulty("from 4;person a;from 4;", 3, 16);
            Check.due("without", Check.told("person a;").count(3), 9);
            NameNotes notes = Check.told("from 4;");
            Check.studio(notes, "person a;");
            Check.due("without, though the last studio had one", notes.count(3), 9);
            Check.studio(notes, "from 3;!");
            Check.studio(notes, "person a;");
            Check.due("without, though one with a fault had one", notes.count(3), 9);
            Check.faulty("from;", 1, 4);
        });
    }

    private static void names() {
        terms("NAME: a WORD, none of those told here, in an EVENING or a SENTENCE; told once.", () -> {
            for (String word : KEPT) {
                Check.faulty("tune " + word + " 1 1;", 1, 5);
                Check.faulty("tune x 1 1;clue " + word + " x;", 1, 16);
                Check.faulty("person " + word + ";", 1, 7);
                Check.faulty("tune x 1 1;clue c x " + word + ";", 1, 20);
                Check.faulty("person a;knows " + word + " x 1;", 1, 15);
                Check.faulty("person a;knows a " + word + " 1;", 1, 17);
                Check.faulty("dare " + word + " 1;", 1, 5);
                evening("clue " + word + ";", 1, 5);
                evening("clue c;" + word + " 4;", 1, 7);
                sentence("in " + word, 1, 3);
                sentence("sure " + word, 1, 5);
                sentence("like " + word, 1, 5);
            }
            for (String word : NEAR) {
                Check.fine("tune " + word + " 1 1;", 1);
                Check.fine("tune x 1 1;clue " + word + " x;", 2);
                Check.fine("person " + word + ";", 1);
            }
            String[] lines = {"tune k 1 1;", "clue k x;", "person k;"};
            int[] places = {5, 5, 7};
            for (String first : lines) {
                for (int i = 0; i < 3; i++) {
                    String told = "tune x 1 1;" + first;
                    Check.faulty(told + lines[i], 3, told.length() + places[i]);
                }
            }
        });
    }

    private static void counts() {
        terms("9 TUNES, 6 CLUES, 5 PERSONS at most, numbered from 0 each.", () -> {
            String clues = "clue a r;clue b s;clue c t;clue d u;clue e v;clue f w;";
            String persons = "person g;person h;person i;person j;person k;";
            NameNotes notes = Check.told(NINE_TUNES + clues + persons + "knows k z 7;dare g 1;dare k 2;");
            Check.due("tunes", notes.count(0), 9);
            Check.due("clues", notes.count(1), 6);
            Check.due("persons", notes.count(2), 5);
            Check.due("the first clue", notes.clue(0), 1);
            Check.due("the last clue", notes.clue(5), 32);
            Check.due("the last person and tune", notes.knows(4, 8), 7);
            Check.due("the first person", notes.dare(0), 1);
            Check.due("the last person", notes.dare(4), 2);
            Check.faulty(NINE_TUNES + "tune q 1 1;", 4, NINE_TUNES.length());
            Check.faulty(NINE_TUNES + clues + "clue q r;", 4, NINE_TUNES.length() + clues.length());
            Check.faulty(persons + "person q;", 4, persons.length());
        });
    }

    private static void evenings() {
        terms("An EVENING is a text of at most 400 bytes:", () -> {
            evening("clue c;" + " ".repeat(393), 0, 0);
            evening(" ".repeat(393) + "clue c;", 0, 0);
            evening("clue c;" + " ".repeat(394), 1, 400);
            evening(" ".repeat(394) + "clue c;", 1, 400);
            evening("clue c;" + "\n".repeat(933), 1, 400);
        });
        terms("'clue' CLUE ; { PERSON ( N | 'name' ) ; } (N 1 to 9).", () -> {
            evening("", 1, 0);
            evening("c;", 1, 0);
            evening("person c;", 1, 0);
            evening("clue;", 1, 4);
            evening("clue c", 1, 6);
            evening("clue c;", 0, 0);
            evening("clue c c;", 1, 7);
            evening("clue c;;", 1, 7);
            evening("clue c;a;", 1, 8);
            evening("clue c;a 9", 1, 10);
            evening("clue c;a 9 9;", 1, 11);
            evening("clue c;a name 9;", 1, 14);
            evening("clue c;a clue;", 1, 9);
            evening("clue c;4;", 1, 7);
            evening("clue c;name;", 1, 7);
            for (int n = 0; n < 100; n++) {
                boolean fits = n >= 1 && n <= 9;
                evening("clue c;a " + n + ";", fits ? 0 : 2, 9);
            }
            // 98 lines are all that 400 bytes have room for; all are read.
            NameNotes notes = Check.told(HEARD);
            Check.due("98 lines", Check.evening(notes, "clue c;a 9;" + "b 8;".repeat(97)), 3);
            evening("clue c;" + "a 9;".repeat(97) + "a 10;", 2, 397);
        });
    }

    private static void faultsAtEnds() {
        terms("1 no TOKEN, or one that can't come (at it; the end: how many bytes there are;", () -> {
            Check.faulty("!", 1, 0);
            Check.faulty("  !", 1, 2);
            Check.faulty("  x", 1, 2);
            Check.faulty("tune", 1, 4);
            Check.faulty("tune ", 1, 5);
            Check.faulty("tune \n ", 1, 7);
            Check.faulty("tune x 5 2", 1, 10);
            Check.faulty("tune x 5 2   ", 1, 13);
            evening("", 1, 0);
            evening("  ", 1, 2);
            evening("clue c;a 4 ", 1, 11);
            sentence("", 1, 0);
            sentence(" ", 1, 1);
            sentence("in c and ", 1, 9);
            sentence("in c  !", 1, 6);
        });
        terms("the most bytes told, if there are more and no FAULT is ahead: TOKENS that begin ahead of it are read whole);", () -> {
            Check.faulty("!" + " ".repeat(939), 1, 0);
            Check.faulty(" ".repeat(899) + "!!", 1, 899);
            Check.faulty(" ".repeat(900) + "!", 1, 900);
            Check.faulty(" ".repeat(893) + "person a;", 1, 900);
            Check.faulty(" ".repeat(894) + "person a;", 1, 900);
            Check.faulty(" ".repeat(899) + "person", 1, 900);
            Check.faulty(" ".repeat(899) + "personss", 1, 899);
            Check.faulty(" ".repeat(892) + "person abcdefg;", 1, 900);
            Check.faulty(" ".repeat(892) + "person abcdefgh;", 1, 899);
            Check.faulty("person abcdefg;" + " ".repeat(877) + "person abcdefg;", 3, 899);
            Check.faulty(" ".repeat(894) + "from 10;", 2, 899);
            Check.faulty(" ".repeat(894) + "from 100;", 1, 899);
            Check.faulty(" ".repeat(895) + "from 10;", 1, 900);
            Check.faulty("person a" + " ".repeat(892), 1, 900);
            Check.faulty("person a" + " ".repeat(893), 1, 900);
            evening(" ".repeat(399) + "clue", 1, 400);
            evening(" ".repeat(399) + "clues", 1, 399);
            evening("clue c;" + " ".repeat(390) + "a 10;", 2, 399);
            evening("clue c;" + " ".repeat(391) + "a 10;", 1, 400);
            evening("clue" + " ".repeat(395) + "qq;", 3, 399);
            evening("clue" + " ".repeat(396) + "qq;", 1, 400);
            sentence("in" + " ".repeat(197) + "qq", 3, 199);
            sentence("in" + " ".repeat(198) + "qq", 1, 200);
            sentence("in c" + " ".repeat(196), 0, 0);
            sentence("in c" + " ".repeat(197), 1, 200);
        });
    }

    private static void faultsByOrder() {
        terms("FAULTS, the first along the text, of one TOKEN the least:", () -> {
            Check.faulty("tune x 25 0;tune x 1 1;!", 2, 7);
            Check.faulty("tune x 1 0;!", 2, 9);
            Check.faulty("person a;person a;from 0;", 3, 16);
            Check.faulty(NINE_NOTES + " 25 1;", 2, NINE_NOTES.length() + 1);
            Check.faulty(NINE_NOTES + " 24 0;", 4, NINE_NOTES.length() + 1);
            Check.faulty(NINE_NOTES + " 100 1;", 1, NINE_NOTES.length() + 1);
            Check.faulty(NINE_TUNES + "tune x 1 1;", 4, NINE_TUNES.length());
            Check.faulty(NINE_TUNES + "tune;", 4, NINE_TUNES.length());
            Check.faulty("tune x 1 1;person a;knows a x 1;knows a x 10;", 3, 38);
            Check.faulty("tune x 1 1;person a;knows a x 1;knows a y 10;", 3, 40);
            Check.faulty("tune x 1 1;person a;knows a x 1;knows a ;", 1, 40);
            Check.faulty("person a;dare a 1;dare a 10;", 3, 23);
            Check.faulty("from 1;from 10;", 3, 7);
            evening("clue q;a 0;", 3, 5);
            evening("clue c;a 0;q", 2, 9);
            sentence("in q and", 3, 3);
        });
        terms("2 a NUMBER that is not as told (at it);", () -> {
            Check.faulty("tune x 25 1;", 2, 7);
            Check.faulty("tune x 24 0;", 2, 10);
            Check.faulty("tune x 24 10;", 2, 10);
            Check.faulty("tune x 1 1;person a;knows a x 10;", 2, 30);
            Check.faulty("person a;dare a 10;", 2, 16);
            Check.faulty("from 0;", 2, 5);
            Check.faulty("from 10;", 2, 5);
            evening("clue c;a 0;", 2, 9);
            evening("clue c;a 10;", 2, 9);
            sentence("beats=0", 0, 0);
        });
    }

    private static void faultsOfNames() {
        terms("3 a NAME told twice, not told, or of another sort, a TUNE told again (at it),", () -> {
            Check.faulty("tune x 1 1;tune x 1 1;", 3, 16);
            Check.faulty("tune x 1 1;tune y 1 1;tune x 1 1;", 3, 27);
            Check.faulty("tune x 1 1;clue c y;", 3, 18);
            Check.faulty("tune x 1 1;clue c y;tune y 1 1;", 3, 18);
            Check.faulty("tune x 1 1;clue c c;", 3, 18);
            Check.faulty("tune x 1 1;person a;clue c a;", 3, 27);
            Check.faulty("tune x 1 1;person a;knows x x 1;", 3, 26);
            Check.faulty("tune x 1 1;person a;knows b x 1;", 3, 26);
            Check.faulty("tune x 1 1;person a;knows a a 1;", 3, 28);
            Check.faulty("tune x 1 1;person a;knows a y 1;", 3, 28);
            Check.faulty("tune x 1 1;dare x 1;", 3, 16);
            Check.faulty("person a;dare b 1;", 3, 14);
            Check.faulty("dare a 1;person a;", 3, 5);
            Check.faulty("tune x 1 1;clue c x x;", 3, 20);
            evening("clue x;", 3, 5);
            evening("clue a;", 3, 5);
            evening("clue q;", 3, 5);
            evening("clue c;c 4;", 3, 7);
            evening("clue c;x 4;", 3, 7);
            evening("clue c;q 4;", 3, 7);
        });
        terms("what is told once told again (at the PERSON; 'from' at its WORD);", () -> {
            Check.faulty("tune x 1 1;person a;knows a x 1;knows  a  x 1;", 3, 39);
            Check.faulty("person a;dare a 1;dare  a 1;", 3, 24);
            Check.faulty("from 1; from 1;", 3, 8);
        });
    }

    private static void faultsOfCounts() {
        terms("4 a tenth TUNE, a seventh CLUE, a sixth PERSON (at the LINE's first WORD),", () -> {
            Check.faulty(NINE_TUNES + " tune q 1 1;", 4, NINE_TUNES.length() + 1);
            String clues = "tune x 1 1;clue a x;clue b x;clue c x;clue d x;clue e x;clue f x;";
            Check.faulty(clues + " clue g x;", 4, clues.length() + 1);
            String persons = "person a;person b;person c;person d;person e;";
            Check.faulty(persons + " person f;", 4, persons.length() + 1);
        });
        terms("a tenth note (at its PITCH),", () -> {
            Check.faulty(NINE_NOTES + " 0 1;", 4, NINE_NOTES.length() + 1);
            Check.faulty(NINE_NOTES + "  24 1;", 4, NINE_NOTES.length() + 2);
            Check.faulty(NINE_NOTES + " 0", 4, NINE_NOTES.length() + 1);
        });
        // Of nine tunes at most a tenth one is told again, or not told: fault 3, which is less.
        terms("a tenth TUNE of a CLUE (at it).", () -> {
            String nine = NINE_TUNES + "clue c r s t u v w x y z ";
            Check.faulty(nine + "r;", 3, nine.length());
            Check.faulty(nine + "q;", 3, nine.length());
            Check.faulty(nine + "tune;", 1, nine.length());
            Check.faulty(nine + "1;", 1, nine.length());
        });
    }
}
