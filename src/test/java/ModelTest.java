import java.lang.reflect.InvocationTargetException;
import java.lang.reflect.Method;
import java.lang.reflect.Modifier;
import java.util.ArrayList;
import java.util.Arrays;
import java.util.Collections;
import java.util.HashMap;
import java.util.List;
import java.util.Map;
import java.util.NoSuchElementException;
import java.util.Random;

/** All promises: whole runs of calls, drawn, each answer compared with that of the model, a second writing of the document. */
public final class ModelTest {
    private static final int RUNS = 150;
    private static final int CALLS = 512;
    private static final int[] SHARP = {-1, -2, 0, 1, 9, 10, 11, 100, 101, 512, Integer.MAX_VALUE, Integer.MIN_VALUE};
    /** Each method that reads no text, with the letters of its arguments (see draw). */
    private static final String[] ASKED = {
        "fault", "note xiw", "tune xm", "when xi", "clue c", "knows px", "dare p", "begins xnhC", "parts nhC", "enough xhC",
        "named pxncw", "odds pncw", "needs pkc", "best ppbc", "worth ppbcw", "reply ppbc", "gains ppbcw", "fair ppc",
        "held pxncww", "among pnSw", "low ppc", "lowest pp", "closest pp", "play ppc", "ablest nc", "hardest hc", "learn pnck",
        "match sskw", "bold sskk", "bolder sskkw", "lessons pnck", "twins nhCj", "alike xxh", "apart xx", "nearest xC",
        "rank im", "commonest", "cover", "heard e", "told w", "night ppd", "nightly e", "nights ppNd", "write x", "byteAt t",
        "said j", "count e"};
    private static final String[] CHANGING = {"teach pxk", "dares pk", "copies pp", "undo", "image I", "restore I"};
    private static final Map<String, Method> FACE = face();

    private final Random random;
    private final NameNotes notes = new NameNotes();
    private final Model model = new Model();
    private final List<String> tunes = new ArrayList<>();
    private final List<String> clues = new ArrayList<>();
    private final List<String> persons = new ArrayList<>();
    private int calls;

    private ModelTest(int seed) {
        random = new Random(seed);
    }

    public static void main(String[] args) throws ReflectiveOperationException {
        int runs = args.length > 0 ? Integer.parseInt(args[0]) : RUNS;
        int first = args.length > 1 ? Integer.parseInt(args[1]) : 1;
        for (int seed = first; seed < first + runs; seed++) {
            Check.heading("run " + seed);
            new ModelTest(seed).run();
        }
        Check.end();
    }

    private static Map<String, Method> face() {
        Map<String, Method> methods = new HashMap<>();
        for (Method method : NameNotes.class.getDeclaredMethods()) {
            if (Modifier.isPublic(method.getModifiers())) {
                methods.put(method.getName(), method);
            }
        }
        return methods;
    }

    private void run() throws ReflectiveOperationException {
        read("studio", drawStudio());
        while (calls < CALLS) {
            int kind = random.nextInt(100);
            if (kind < 2) {
                read("studio", drawStudio());
            } else if (kind < 5) {
                read("evening", drawEvening());
                call("told w");
                call("heard e");
            } else if (kind < 8) {
                read("sentence", drawSentence());
                call("said j");
            } else {
                call(kind < 30 ? oneOf(CHANGING) : oneOf(ASKED));
            }
        }
    }

    // ---- calls

    /** The tape is fed and read; what stood on it ahead may be left there. */
    private void read(String method, String text) throws ReflectiveOperationException {
        int start = random.nextInt(9) == 0 ? model.count(4) : 0;
        compare("end", start);
        String spoilt = random.nextInt(3) == 0 ? ReadingTest.spoilt(text, random, method.equals("studio") ? 900 : 400) : text;
        for (int i = 0; i < spoilt.length(); i += 20) {
            compare("feed", four(spoilt, i), four(spoilt, i + 4), four(spoilt, i + 8), four(spoilt, i + 12), four(spoilt, i + 16));
        }
        compare("end", start + spoilt.length());
        compare(method);
        compare("fault");
    }

    private static int four(String text, int start) {
        int sum = 0;
        for (int i = start; i < start + 4; i++) {
            sum = sum << 8 | (i < text.length() ? text.charAt(i) : 'q');
        }
        return sum;
    }

    private void call(String asked) throws ReflectiveOperationException {
        int name = asked.indexOf(' ');
        Object[] values = new Object[name < 0 ? 0 : asked.length() - name - 1];
        for (int i = 0; i < values.length; i++) {
            values[i] = random.nextInt(25) == 0 ? SHARP[random.nextInt(SHARP.length)] : draw(asked.charAt(name + 1 + i));
        }
        compare(name < 0 ? asked : asked.substring(0, name), values);
    }

    private void compare(String name, Object... values) throws ReflectiveOperationException {
        if (calls < CALLS) {
            calls++;
            Method asked = FACE.get(name);
            Method due = Model.class.getDeclaredMethod(name, asked.getParameterTypes());
            String what = "call " + calls + ", " + name + Arrays.toString(values);
            Check.due(what, answer(asked, notes, values), answer(due, model, values));
        }
    }

    private static String answer(Method method, Object owner, Object[] values) throws ReflectiveOperationException {
        try {
            return "" + method.invoke(owner, values);
        } catch (InvocationTargetException e) {
            return e.getCause() instanceof NoSuchElementException ? "NoSuchElementException" : "" + e.getCause();
        }
    }

    private int draw(char letter) {
        switch (letter) {
            case 'x':
                return below(model.count(0));
            case 'c':
                return below(model.count(1));
            case 'C':
                return below(model.count(1) + 1) - 1;
            case 'p':
                return below(model.count(2));
            case 'S':
                return 1 + below((1 << model.count(0)) - 1);
            case 'n':
                return 1 + below(random.nextBoolean() ? 3 : 9);
            case 'N':
                return 1 + below(5);
            case 'd':
                return random.nextInt(8) == 0 ? Integer.MAX_VALUE : random.nextInt();
            case 'j':
                return below(8) - 1;
            case 't':
                return below(30);
            case 'I':
                return below(2);
            case 's':
                return below(3);
            case 'h':
            case 'm':
                return below(4);
            case 'e':
                return below(5);
            case 'w':
                return below(2);
            default:
                return below(10);
        }
    }

    private int below(int n) {
        return n > 1 ? random.nextInt(n) : 0;
    }

    private String oneOf(String... some) {
        return some[random.nextInt(some.length)];
    }

    private static String oneOf(List<String> some, Random random) {
        return some.isEmpty() ? "nobody" : some.get(random.nextInt(some.size()));
    }

    // ---- texts

    private static List<String> names(char sort, int many) {
        List<String> names = new ArrayList<>();
        for (int i = 0; i < many; i++) {
            names.add("" + sort + (char) ('a' + i));
        }
        return names;
    }

    private static void become(List<String> names, List<String> others) {
        names.clear();
        names.addAll(others);
    }

    private String drawStudio() {
        become(tunes, names('t', 1 + below(9)));
        become(clues, names('c', random.nextInt(12) == 0 ? 0 : 1 + below(6)));
        become(persons, names('p', random.nextInt(12) == 0 ? below(2) : 2 + below(4)));
        StringBuilder text = new StringBuilder();
        List<String> drawn = new ArrayList<>();
        for (String tune : tunes) {
            drawn.add(drawNotes(drawn));
            text.append("tune ").append(tune).append(drawn.get(drawn.size() - 1)).append(';');
        }
        for (String clue : clues) {
            List<String> some = new ArrayList<>(tunes);
            Collections.shuffle(some, random);
            some = some.subList(0, 1 + below(some.size()));
            text.append("clue ").append(clue).append(' ').append(String.join(" ", some)).append(';');
        }
        persons.forEach(person -> text.append("person ").append(person).append(';'));
        int[] mayKnow = random.nextBoolean() ? new int[] {9, 9, 8, 0} : new int[] {random.nextInt(10), random.nextInt(10), 9};
        persons.forEach(person -> drawPerson(person, mayKnow, text));
        if (random.nextBoolean()) {
            text.append("from ").append(1 + random.nextInt(9)).append(';');
        }
        return text.toString();
    }

    /** Beginnings of tunes drawn earlier come again. */
    private String drawNotes(List<String> earlier) {
        StringBuilder text = new StringBuilder();
        int notes = 1 + (random.nextInt(4) == 0 ? below(9) : below(4));
        int pitches = random.nextInt(3) > 0 ? 3 : 25;
        String[] other = (earlier.isEmpty() ? "" : oneOf(earlier, random)).trim().split(" ");
        int kept = 2 * below(other.length / 2 + 1);
        for (int i = 0; i < notes; i++) {
            if (2 * i < kept) {
                text.append(' ').append(other[2 * i]).append(' ').append(other[2 * i + 1]);
            } else {
                text.append(' ').append(below(pitches)).append(' ').append(1 + below(pitches == 3 ? 2 : 9));
            }
        }
        return text.toString();
    }

    private void drawPerson(String person, int[] mayKnow, StringBuilder text) {
        for (String tune : tunes) {
            if (random.nextInt(4) > 0 && text.length() < 850) {
                text.append("knows ").append(person).append(' ').append(tune).append(' ')
                        .append(mayKnow[random.nextInt(mayKnow.length)]).append(';');
            }
        }
        if (random.nextBoolean() && text.length() < 850) {
            text.append("dare ").append(person).append(' ').append(random.nextInt(10)).append(';');
        }
    }

    private String drawEvening() {
        String[] two = {oneOf(persons, random), oneOf(persons, random)};
        StringBuilder text = new StringBuilder("clue " + oneOf(clues, random) + ";");
        int bid = model.count(3) + (random.nextInt(9) == 0 ? 1 : 0);
        int lines = below(6);
        for (int i = 0; i < lines && bid > 0; i++) {
            String who = random.nextInt(12) == 0 ? oneOf(persons, random) : two[i % 2];
            text.append(who).append(random.nextInt(9) == 0 ? " name" : " " + bid).append(';');
            bid -= random.nextInt(9) == 0 ? 0 : 1 + below(2);
        }
        return random.nextInt(3) == 0 ? text.toString() : text + two[lines % 2] + " name;";
    }

    private String drawSentence() {
        return drawCond(1);
    }

    private String drawCond(int depth) {
        StringBuilder text = new StringBuilder(drawOne(depth));
        for (int i = below(3); i > 0; i--) {
            text.append(oneOf(" or ", " and ")).append(drawOne(depth));
        }
        return text.toString();
    }

    private String drawOne(int depth) {
        int kind = random.nextInt(depth > 7 ? 4 : 7);
        switch (kind) {
            case 0:
                return "in " + oneOf(clues, random);
            case 1:
                return "sure " + oneOf(persons, random);
            case 2:
                return "like " + oneOf(tunes, random);
            case 3:
                return oneOf("notes", "high", "low", "beats") + oneOf("<", "=", ">") + oneOf("0", "1", "2", "3", "5", "9", "12", "99");
            case 4:
                return "(" + drawCond(depth + 1) + ")";
            default:
                return "not " + drawOne(depth + 1);
        }
    }
}
