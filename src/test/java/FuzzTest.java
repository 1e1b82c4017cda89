import java.lang.reflect.InvocationTargetException;
import java.lang.reflect.Method;
import java.lang.reflect.Modifier;
import java.util.Arrays;
import java.util.Comparator;
import java.util.NoSuchElementException;
import java.util.Random;

/** Whatever is called with whatever, nothing is thrown but what the document names, and a call that throws changes nothing. */
public final class FuzzTest {
    private static final String[] TEXTS = {
        "tune x 5 2 7 1 9 1;tune y 5 2 7 1 4 3;tune z 6 2 8 1;clue c x y;clue d x y z;person a;person b;person e;"
            + "knows a x 9;knows a y 9;knows b x 3;dare b 2;from 4;",
        "clue c;a 4;b 3;a name;", "clue d;b 4;e 2;", "not (in c or sure b) and high > 6", "tune x 5;", "",
        "tune x 1 1;person a;", "clue c;a 4;a 4;", "person a;person b;"};
    private static final int[] SHARP = {0, 1, 2, 3, 8, 9, 10, -1, -2, 100, 101, Integer.MAX_VALUE, Integer.MIN_VALUE};

    public static void main(String[] args) throws IllegalAccessException {
        Method[] methods = NameNotes.class.getDeclaredMethods();
        methods = Arrays.stream(methods).filter(m -> Modifier.isPublic(m.getModifiers())).toArray(Method[]::new);
        Arrays.sort(methods, Comparator.comparing(Method::getName));
        Random random = new Random(5);
        for (int run = 0; run < 400; run++) {
            NameNotes notes = new NameNotes();
            for (int i = 0; i < 512; i++) {
                if (random.nextInt(6) == 0 && notes.count(4) < 400) {
                    feed(notes, random);
                }
                call(notes, methods[random.nextInt(methods.length)], random);
            }
        }
        Check.end();
    }

    private static void feed(NameNotes notes, Random random) {
        StringBuilder text = new StringBuilder(TEXTS[random.nextInt(TEXTS.length)]);
        for (int i = random.nextInt(8) - 4; i > 0 && text.length() > 0; i--) {
            text.setCharAt(random.nextInt(text.length()), (char) random.nextInt(256));
        }
        Check.feed(notes, text.toString());
    }

    private static void call(NameNotes notes, Method method, Random random) throws IllegalAccessException {
        Object[] values = new Object[method.getParameterCount()];
        for (int i = 0; i < values.length; i++) {
            int kind = random.nextInt(8);
            values[i] = kind < 6 ? random.nextInt(4) : kind == 6 ? SHARP[random.nextInt(SHARP.length)] : random.nextInt();
        }
        boolean mayThrow = method.getExceptionTypes().length > 0;
        try {
            method.invoke(notes, values);
        } catch (InvocationTargetException e) {
            boolean named = mayThrow && e.getCause().getClass() == NoSuchElementException.class;
            Check.due(method.getName() + Arrays.toString(values) + " threw " + e.getCause(), named, true);
        }
    }
}
