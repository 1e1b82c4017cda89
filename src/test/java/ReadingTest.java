import java.util.ArrayList;
import java.util.HashMap;
import java.util.HashSet;
import java.util.List;
import java.util.Map;
import java.util.Random;
import java.util.Set;

/** Promises 4, 5, 47 and 55: texts that were spoilt at random, read by a second reader that works on a list of tokens. */
public final class ReadingTest {
    private static final String STUDIO = "tune x 5 2 7 1;tune y 24 9;clue c y x;clue d y;person a;person b;knows a x 9;"
            + "knows b y 0;dare b 0;from 4;";
    private static final String[] STUDIOS = {STUDIO, "tune x 1 1 1 1 1 1 1 1 1 1 1 1 1 1 1 1 1 1;clue k x;",
        "tune p 1 1;tune q 1 1;tune r 1 1;tune s 1 1;tune t 1 1;tune u 1 1;tune v 1 1;tune w 1 1;tune x 1 1;",
        "tune x 1 1;clue a x;clue b x;clue c x;clue d x;clue e x;clue f x;", "person a;person b;person c;person d;person e;"};
    private static final String[] EVENINGS = {"clue c;a 4;b 3;a name;", "clue d;b 4;a 1;b name;", "clue c;"};
    private static final String[] SENTENCES = {"not (in c or sure b) and high > 6", "like x and not not (low<3 or in d)",
        "in c or in c or in c or in c or in c or in c or in c or in c or in c or in c or in c or in c or in c or in c or in c or in c or in c or in c or in c or in c",
        "((((((((in c))))))))", "not not not not not not not in c", "beats=3 or notes>1 and sure a"};
    private static final String[] BITS = {" ", "\n", ";", "x", "y", "a", "b", "c", "q", "tune", "clue", "person", "knows", "dare",
        "from", "name", "or", "and", "not", "in", "sure", "like", "high", "low", "beats", "notes", "0", "1", "9", "10",
        "24", "25", "100", "(", ")", "<", "=", ">", ".", "!", "abcdefgh", "tune q 1 1;", "tune q 1 1", "clue q x;", "person q;",
        " 1 1", "knows a x 1;", "dare a 1;", "from 1;", "a 1;", "and in c", "(", "not "};
    private static final Set<String> RESERVED = Set.of("tune", "clue", "person", "knows", "dare", "from", "name", "or", "and",
            "not", "in", "sure", "like", "notes", "high", "low", "beats");

    public static void main(String[] args) {
        Random random = new Random(11);
        for (int i = 0; i < 60000; i++) {
            String text = spoilt(STUDIOS[random.nextInt(STUDIOS.length)], random, 900);
            studio(text);
            text = spoilt(EVENINGS[random.nextInt(EVENINGS.length)], random, 400);
            other(text, true);
            text = spoilt(SENTENCES[random.nextInt(SENTENCES.length)], random, 200);
            other(text, false);
        }
        Check.end();
    }

    private static String spoilt(String whole, Random random, int most) {
        StringBuilder text = new StringBuilder(whole);
        for (int i = random.nextInt(5); i > 0; i--) {
            int at = random.nextInt(text.length() + 1);
            int end = Math.min(text.length(), at + random.nextInt(3));
            text.replace(at, random.nextInt(3) == 0 ? end : at, BITS[random.nextInt(BITS.length)]);
        }
        if (random.nextInt(5) == 0) {
            int at = random.nextInt(text.length() + 1);
            int room = Math.max(0, most - text.length() - 10 + random.nextInt(20));
            text.insert(at, " ".repeat(room));
        }
        return text.length() > 940 ? text.substring(0, 940) : text.toString();
    }

    private static void studio(String text) {
        NameNotes notes = new NameNotes();
        int got = Check.studio(notes, text);
        Reader reader = new Reader(text, 900);
        int lines = reader.studio();
        Check.due("studio of '" + text + "'", got, reader.kind == 0 ? lines : -1 - reader.place);
        Check.due("fault of '" + text + "'", notes.fault(), reader.kind);
    }

    private static void other(String text, boolean evening) {
        NameNotes notes = Check.told(STUDIO);
        Reader names = new Reader(STUDIO, 900);
        names.studio();
        Reader reader = new Reader(text, evening ? 400 : 200);
        reader.names.putAll(names.names);
        int ones = evening ? reader.evening() : reader.sentence();
        int got = evening ? Check.evening(notes, text) : Check.sentence(notes, text);
        Check.due("fault of '" + text + "'", notes.fault(), reader.kind);
        if (reader.kind != 0) {
            Check.due("place in '" + text + "'", got, (evening ? -2 : -1) - reader.place);
        } else if (evening) {
            Check.due("evening '" + text + "' without a fault", got >= -1, true);
        } else {
            Check.due("sentence '" + text + "'", got, ones);
        }
    }

    private record Token(String text, int place) {
    }

    /** Ends the reading at the first fault. */
    private static final class Fault extends RuntimeException {
        private static final long serialVersionUID = 1;
    }

    private static final class Reader {
        final Map<String, String> names = new HashMap<>();
        private final List<Token> tokens = new ArrayList<>();
        private int next;
        private int ones;
        int kind;
        int place;

        Reader(String text, int most) {
            int at = 0;
            while (at < text.length() && at < most) {
                char c = text.charAt(at);
                int end = at + 1;
                if (c == ' ' || c == '\n') {
                    at++;
                    continue;
                }
                while (isRun(c) && end < text.length() && isRun(text.charAt(end))) {
                    end++;
                }
                tokens.add(new Token(text.substring(at, end), at));
                at = end;
            }
            tokens.add(text.length() > most ? new Token("!", most) : new Token("", text.length()));
        }

        private static boolean isRun(char c) {
            return c >= 'a' && c <= 'z' || c >= '0' && c <= '9';
        }

        private String peek() {
            return tokens.get(next).text;
        }

        private RuntimeException fault(int what, int token) {
            kind = what;
            place = tokens.get(token).place;
            return new Fault();
        }

        private void sign(String sign) {
            if (!peek().equals(sign)) {
                throw fault(1, next);
            }
            next++;
        }

        private boolean isNumber() {
            return peek().matches("[0-9]{1,2}");
        }

        private int number(int least, int most) {
            if (!isNumber()) {
                throw fault(1, next);
            }
            int value = Integer.parseInt(peek());
            if (value < least || value > most) {
                throw fault(2, next);
            }
            next++;
            return value;
        }

        private String name() {
            if (!peek().matches("[a-z]{1,7}") || RESERVED.contains(peek())) {
                throw fault(1, next);
            }
            return peek();
        }

        private String named(String sort) {
            String name = name();
            if (!sort.equals(names.get(name))) {
                throw fault(3, next);
            }
            next++;
            return name;
        }

        private void newName(String sort) {
            if (names.containsKey(name())) {
                throw fault(3, next);
            }
            names.put(peek(), sort);
            next++;
        }

        private void few(String sort, int most) {
            int told = 0;
            for (String other : names.values()) {
                told += other.equals(sort) ? 1 : 0;
            }
            if (told == most) {
                throw fault(4, next);
            }
            next++;
        }

        int studio() {
            Set<String> told = new HashSet<>();
            int lines = 0;
            try {
                while (!peek().isEmpty()) {
                    line(told);
                    sign(";");
                    lines++;
                }
            } catch (Fault e) {
                return -1;
            }
            return lines;
        }

        private void line(Set<String> told) {
            int start = next;
            switch (peek()) {
                case "tune":
                    few("tune", 9);
                    newName("tune");
                    notes();
                    break;
                case "clue":
                    few("clue", 6);
                    newName("clue");
                    left();
                    break;
                case "person":
                    few("person", 5);
                    newName("person");
                    break;
                case "knows":
                    next++;
                    String p = named("person");
                    String x = named("tune");
                    if (!told.add(p + " " + x)) {
                        throw fault(3, start + 1);
                    }
                    number(0, 9);
                    break;
                case "dare":
                    next++;
                    if (!told.add(named("person"))) {
                        throw fault(3, start + 1);
                    }
                    number(0, 9);
                    break;
                case "from":
                    if (!told.add("")) {
                        throw fault(3, start);
                    }
                    next++;
                    number(1, 9);
                    break;
                default:
                    throw fault(1, next);
            }
        }

        private void notes() {
            int notes = 0;
            do {
                int pitch = next;
                number(0, 24);
                if (notes == 9) {
                    throw fault(4, pitch);
                }
                number(1, 9);
                notes++;
            } while (isNumber());
        }

        private void left() {
            Set<String> left = new HashSet<>();
            do {
                if (!left.add(named("tune"))) {
                    throw fault(3, next - 1);
                }
            } while (!peek().equals(";"));
        }

        int evening() {
            try {
                sign("clue");
                named("clue");
                sign(";");
                while (!peek().isEmpty()) {
                    named("person");
                    if (peek().equals("name")) {
                        next++;
                    } else {
                        number(1, 9);
                    }
                    sign(";");
                }
            } catch (Fault e) {
                return -1;
            }
            return 0;
        }

        int sentence() {
            try {
                cond(1);
                if (!peek().isEmpty()) {
                    throw fault(1, next);
                }
            } catch (Fault e) {
                return -1;
            }
            return ones;
        }

        private void cond(int depth) {
            all(depth);
            while (peek().equals("or")) {
                next++;
                all(depth);
            }
        }

        private void all(int depth) {
            one(depth);
            while (peek().equals("and")) {
                next++;
                one(depth);
            }
        }

        private void one(int depth) {
            String first = peek();
            if (!Set.of("not", "(", "in", "sure", "like", "notes", "high", "low", "beats").contains(first)) {
                throw fault(1, next);
            }
            if (ones == 20 || depth == 9) {
                throw fault(4, next);
            }
            ones++;
            next++;
            switch (first) {
                case "not":
                    one(depth + 1);
                    break;
                case "(":
                    cond(depth + 1);
                    sign(")");
                    break;
                case "in":
                    named("clue");
                    break;
                case "sure":
                    named("person");
                    break;
                case "like":
                    named("tune");
                    break;
                default:
                    if (!Set.of("<", "=", ">").contains(peek())) {
                        throw fault(1, next);
                    }
                    next++;
                    number(0, 99);
            }
        }
    }
}
