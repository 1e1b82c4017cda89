import java.util.ArrayList;
import java.util.List;
import java.util.Set;
import java.util.SortedSet;
import java.util.TreeSet;

/** A second reader of all texts, that works on a list of tokens and ends at the first fault. */
final class Reader {
    static final class Fault extends RuntimeException {
        private static final long serialVersionUID = 1;
        final int kind;
        final int place;

        Fault(int kind, int place) {
            this.kind = kind;
            this.place = place;
        }
    }

    /** A bid, or 0 for NAME IT. */
    record Line(int person, int bid) {
    }

    record Evening(int clue, List<Line> lines) {
    }

    interface Condition {
        boolean holds(Model model, int x);
    }

    record Saying(Condition condition, int ones) {
    }

    private record Token(String text, int place) {
    }

    private static final Set<String> RESERVED = Set.of("tune", "clue", "person", "knows", "dare", "from", "name", "or", "and",
            "not", "in", "sure", "like", "notes", "high", "low", "beats");
    private static final List<String> MEASURES = List.of("notes", "high", "low", "beats");

    private final List<Token> tokens = new ArrayList<>();
    private int next;
    private int ones;

    private Reader(String text, int most) {
        int at = 0;
        while (at < text.length() && at < most) {
            char c = text.charAt(at);
            int end = at + 1;
            if (c == ' ' || c == '\n') {
                at++;
                continue;
            }
            while (isRun(c) && end < text.length() && isRun(text.charAt(end))) {
                end++;
            }
            tokens.add(new Token(text.substring(at, end), at));
            at = end;
        }
        tokens.add(text.length() > most ? new Token("!", most) : new Token("", text.length()));
    }

    private static boolean isRun(char c) {
        return c >= 'a' && c <= 'z' || c >= '0' && c <= '9';
    }

    static Told studio(String text) {
        return new Reader(text, 900).studio();
    }

    static Evening evening(String text, Told told) {
        return new Reader(text, 400).evening(told);
    }

    static Saying sentence(String text, Told told) {
        Reader reader = new Reader(text, 200);
        Condition condition = reader.cond(told, 1);
        reader.sign("");
        return new Saying(condition, reader.ones);
    }

    private String peek() {
        return tokens.get(next).text;
    }

    private Fault fault(int kind, int token) {
        return new Fault(kind, tokens.get(token).place);
    }

    private boolean takes(String text) {
        boolean here = peek().equals(text);
        next += here ? 1 : 0;
        return here;
    }

    private void sign(String sign) {
        if (!takes(sign)) {
            throw fault(1, next);
        }
    }

    private boolean isNumber() {
        return peek().matches("[0-9]{1,2}");
    }

    private int number(int least, int most) {
        if (!isNumber()) {
            throw fault(1, next);
        }
        int value = Integer.parseInt(peek());
        if (value < least || value > most) {
            throw fault(2, next);
        }
        next++;
        return value;
    }

    private String name() {
        if (!peek().matches("[a-z]{1,7}") || RESERVED.contains(peek())) {
            throw fault(1, next);
        }
        return peek();
    }

    private int named(Told told, String sort) {
        Told.Name name = told.names.get(name());
        if (name == null || !name.sort().equals(sort)) {
            throw fault(3, next);
        }
        next++;
        return name.number();
    }

    /** The line of a new one of its sort; its first word is still to be read. */
    private String newName(Told told, int number, int most) {
        String sort = peek();
        if (number == most) {
            throw fault(4, next);
        }
        next++;
        if (told.names.containsKey(name())) {
            throw fault(3, next);
        }
        told.names.put(peek(), new Told.Name(sort, number));
        return tokens.get(next++).text;
    }

    private Told studio() {
        Told told = new Told();
        while (!peek().isEmpty()) {
            line(told);
            sign(";");
            told.lines++;
        }
        return told;
    }

    private void line(Told told) {
        int start = next;
        switch (peek()) {
            case "tune":
                newName(told, told.tunes.size(), 9);
                told.tunes.add(notes());
                break;
            case "clue":
                told.clueNames.add(newName(told, told.clues.size(), 6));
                told.clues.add(left(told));
                break;
            case "person":
                told.personNames.add(newName(told, told.personNames.size(), 5));
                break;
            case "knows":
                next++;
                List<Integer> two = List.of(named(told, "person"), named(told, "tune"));
                once(told.knows.containsKey(two), start + 1);
                told.knows.put(two, number(0, 9));
                break;
            case "dare":
                next++;
                int p = named(told, "person");
                once(told.dares.containsKey(p), start + 1);
                told.dares.put(p, number(0, 9));
                break;
            case "from":
                once(told.from != null, start);
                next++;
                told.from = number(1, 9);
                break;
            default:
                throw fault(1, next);
        }
    }

    private void once(boolean again, int token) {
        if (again) {
            throw fault(3, token);
        }
    }

    private List<int[]> notes() {
        List<int[]> notes = new ArrayList<>();
        do {
            int start = next;
            int pitch = number(0, 24);
            if (notes.size() == 9) {
                throw fault(4, start);
            }
            notes.add(new int[] {pitch, number(1, 9)});
        } while (isNumber());
        return notes;
    }

    private SortedSet<Integer> left(Told told) {
        SortedSet<Integer> left = new TreeSet<>();
        do {
            once(!left.add(named(told, "tune")), next - 1);
        } while (!peek().equals(";"));
        return left;
    }

    private Evening evening(Told told) {
        sign("clue");
        Evening evening = new Evening(named(told, "clue"), new ArrayList<>());
        sign(";");
        while (!peek().isEmpty()) {
            int person = named(told, "person");
            evening.lines.add(new Line(person, takes("name") ? 0 : number(1, 9)));
            sign(";");
        }
        return evening;
    }

    private Condition cond(Told told, int depth) {
        Condition first = all(told, depth);
        if (!takes("or")) {
            return first;
        }
        Condition rest = cond(told, depth);
        return (model, x) -> first.holds(model, x) || rest.holds(model, x);
    }

    private Condition all(Told told, int depth) {
        Condition first = one(told, depth);
        if (!takes("and")) {
            return first;
        }
        Condition rest = all(told, depth);
        return (model, x) -> first.holds(model, x) && rest.holds(model, x);
    }

    private Condition one(Told told, int depth) {
        String first = peek();
        if (!Set.of("not", "(", "in", "sure", "like").contains(first) && !MEASURES.contains(first)) {
            throw fault(1, next);
        }
        if (ones == 20 || depth == 9) {
            throw fault(4, next);
        }
        ones++;
        next++;
        switch (first) {
            case "not":
                Condition denied = one(told, depth + 1);
                return (model, x) -> !denied.holds(model, x);
            case "(":
                Condition within = cond(told, depth + 1);
                sign(")");
                return within;
            case "in":
                int c = named(told, "clue");
                return (model, x) -> told.clues.get(c).contains(x);
            case "sure":
                int p = named(told, "person");
                return (model, x) -> model.knows(p, x) == 9;
            case "like":
                int y = named(told, "tune");
                return (model, x) -> model.like(x, y, 3, 0);
            default:
                return measured(MEASURES.indexOf(first));
        }
    }

    private Condition measured(int what) {
        int order = List.of("<", "=", ">").indexOf(peek()) - 1;
        if (order < -1) {
            throw fault(1, next);
        }
        next++;
        int value = number(0, 99);
        return (model, x) -> Integer.signum(model.tune(x, what) - value) == order;
    }
}
