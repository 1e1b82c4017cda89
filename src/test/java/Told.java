import java.util.ArrayList;
import java.util.HashMap;
import java.util.List;
import java.util.Map;
import java.util.SortedSet;
import java.util.TreeSet;

/** What the text of a studio tells, as the second reader reads it. */
final class Told {
    /** A name's sort is the word that it was told by. */
    record Name(String sort, int number) {
    }

    final List<List<int[]>> tunes = new ArrayList<>();
    final List<SortedSet<Integer>> clues = new ArrayList<>();
    final List<String> clueNames = new ArrayList<>();
    final List<String> personNames = new ArrayList<>();
    final Map<String, Name> names = new HashMap<>();
    final Map<List<Integer>, Integer> knows = new HashMap<>();
    final Map<Integer, Integer> dares = new HashMap<>();
    Integer from;
    int lines;

    int from() {
        return from == null ? 9 : from;
    }

    int knows(int p, int x) {
        return knows.getOrDefault(List.of(p, x), 0);
    }

    int dare(int p) {
        return dares.getOrDefault(p, 5);
    }

    SortedSet<Integer> all() {
        SortedSet<Integer> all = new TreeSet<>();
        for (int x = 0; x < tunes.size(); x++) {
            all.add(x);
        }
        return all;
    }
}
