import java.io.IOException;
import java.lang.reflect.Field;
import java.lang.reflect.Member;
import java.lang.reflect.Method;
import java.lang.reflect.Modifier;
import java.nio.file.Files;
import java.nio.file.Path;
import java.util.ArrayList;
import java.util.Arrays;
import java.util.List;
import java.util.Set;
import java.util.TreeSet;
import java.util.regex.Matcher;
import java.util.regex.Pattern;

/** The face is that of the document, and the rules of LANGUAGE.md that can be seen from outside are kept. */
public final class LanguageTest {
    private static final Path SOURCE = Path.of("src/main/java/NameNotes.java");
    private static final Path DOC = Path.of("../shared/DOC.md");
    private static final String[] RULED_OUT = {"->", "::", "\\bsynchronized\\b", "\\bassert\\b", "\\bfinally\\b", "\\bcatch\\b",
        "\\bhashCode\\b", "\\btoString\\b", "\\bExact\\w*\\(", "\\bSystem\\.", "\\bRandom\\b", "\\bThread\\b"};

    private LanguageTest() {
    }

    public static void main(String[] args) throws IOException {
        face();
        classes();
        words();
        lengths();
        Check.end();
    }

    private static void face() throws IOException {
        if (!Files.exists(DOC)) {
            return;
        }
        String doc = Files.readString(DOC);
        String face = doc.substring(doc.indexOf("public final class NameNotes {"), doc.indexOf("## Terms"));
        Set<String> due = new TreeSet<>();
        Matcher lines = Pattern.compile("public (\\w+ )(\\w+)\\((.*)\\)( throws NoSuchElementException)?;").matcher(face);
        while (lines.find()) {
            due.add(lines.group(1) + lines.group(2) + "(" + lines.group(3).replaceAll(" \\w+(,|$)", "$1") + ")"
                    + (lines.group(4) == null ? "" : lines.group(4)));
        }
        Set<String> got = new TreeSet<>();
        for (Method method : NameNotes.class.getDeclaredMethods()) {
            if (isSeen(method)) {
                got.add(signature(method));
            }
        }
        due.forEach(method -> Check.due(method + " is there", got.contains(method), true));
        got.forEach(method -> Check.due(method + " is asked for", due.contains(method), true));
        int type = NameNotes.class.getModifiers();
        Check.due("public and final", Modifier.isPublic(type) && Modifier.isFinal(type), true);
        Check.due("constructors", NameNotes.class.getConstructors().length, NameNotes.class.getDeclaredConstructors().length);
        Field[] seen = Arrays.stream(NameNotes.class.getDeclaredFields()).filter(LanguageTest::isSeen).toArray(Field[]::new);
        Check.due("constants", seen.length == 1 && seen[0].getName().equals("NONE"), true);
        Check.due("NONE", NameNotes.NONE, -1);
    }

    private static boolean isSeen(Member member) {
        return !Modifier.isPrivate(member.getModifiers()) && !member.isSynthetic();
    }

    private static String signature(Method method) {
        List<String> types = new ArrayList<>();
        for (Class<?> type : method.getParameterTypes()) {
            types.add(type.getSimpleName());
        }
        boolean may = Arrays.toString(method.getExceptionTypes()).equals("[class java.util.NoSuchElementException]");
        return method.getReturnType() + " " + method.getName() + "(" + String.join(", ", types) + ")"
                + (may ? " throws NoSuchElementException" : "");
    }

    private static void classes() {
        List<Class<?>> all = new ArrayList<>(List.of(NameNotes.class.getDeclaredClasses()));
        Check.due("some twelve classes", all.size() < 12, true);
        Set<String> open = new TreeSet<>();
        for (Method method : NameNotes.class.getMethods()) {
            open.add(method.getName());
        }
        for (Class<?> inner : all) {
            Check.due(inner + " is static and not public", Modifier.isStatic(inner.getModifiers())
                    && !Modifier.isPublic(inner.getModifiers()), true);
        }
        all.add(NameNotes.class);
        for (Class<?> one : all) {
            for (Method method : one.getDeclaredMethods()) {
                boolean hidden = Modifier.isPrivate(method.getModifiers());
                Check.due(method + " has a public one's name", hidden && open.contains(method.getName()), false);
                Check.due(method + " takes seven at most", method.getParameterCount() <= 7, true);
            }
            int fields = 0;
            for (Field field : one.getDeclaredFields()) {
                boolean kept = Modifier.isStatic(field.getModifiers());
                Check.due(field + " is final, if static", !kept || Modifier.isFinal(field.getModifiers()), true);
                fields += kept ? 0 : 1;
            }
            Check.due(one + " has some twenty fields", fields <= 20, true);
        }
    }

    private static void words() throws IOException {
        String source = Files.readString(SOURCE).replaceAll("(?s)/\\*.*?\\*/|//[^\n]*|\"[^\"\n]*\"", "_");
        for (String word : RULED_OUT) {
            Check.due("'" + word + "' is in the class", Pattern.compile(word).matcher(source).find(), false);
        }
        Check.due("what is imported", source.lines().filter(line -> line.startsWith("import")).toList().toString(),
                "[import java.util.NoSuchElementException;]");
        Matcher thrown = Pattern.compile("throw (?!new NoSuchElementException\\(_\\);)").matcher(source);
        Check.due("what is thrown is a new NoSuchElementException", thrown.find(), false);
        Check.due("new objects in methods", Pattern.compile("\n {8,}[^\n]*new (?!NoSuchElementException)").matcher(
                source.replaceAll("final [^\n=]*= new [^\n]*", "_")).find(), false);
    }

    /** A method begins and ends at the same indent. */
    private static void lengths() throws IOException {
        List<String> lines = Files.readAllLines(SOURCE);
        for (int i = 0; i < lines.size(); i++) {
            Matcher head = Pattern.compile("( {4}| {8})\\S.*\\).*\\{").matcher(lines.get(i));
            if (head.matches()) {
                int end = i;
                while (end < lines.size() && !lines.get(end).equals(head.group(1) + "}")) {
                    end++;
                }
                Check.due("lines of" + lines.get(i) + " within sixty", end - i <= 60, true);
            }
            Check.due("line " + i + " is within 130 signs", lines.get(i).length() <= 130, true);
        }
    }
}
