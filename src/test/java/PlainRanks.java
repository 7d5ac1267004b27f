import java.util.ArrayList;
import java.util.HashMap;
import java.util.HashSet;
import java.util.LinkedHashMap;
import java.util.List;
import java.util.Map;
import java.util.Set;

/**
 * The document in its slowest words, to compare with: changes are texts, ranks come from a table of all changes,
 * swaps apart from a search among all of them.
 */
final class PlainRanks {
    private static final Map<Integer, List<String>> ALL = new HashMap<>();
    private static final Map<Integer, Map<String, Integer>> RANKS = new HashMap<>();
    private static final Map<Integer, Map<String, Integer>> SWAPS = new HashMap<>();

    private final List<String> book = new ArrayList<>();
    private final List<Integer> method = new ArrayList<>();
    private int bells = 5;
    private int rungInAll = 0;

    int setBells(int number) {
        if (number < 2 || number > 8) {
            throw new IllegalArgumentException();
        }
        int before = bells;
        bells = number;
        book.clear();
        method.clear();
        return before;
    }

    int write(int rank) {
        if (rank < 0 || rank >= all(bells).size()) {
            throw new IndexOutOfBoundsException();
        }
        return add(all(bells).get(rank));
    }

    int swap(int change, int place) {
        String old = find(change);
        if (place < 0 || place > bells - 2) {
            throw new IndexOutOfBoundsException();
        }
        return turn(change, swapped(old, place));
    }

    int next(int change) {
        return turn(change, all(bells).get((rank(find(change)) + 1) % all(bells).size()));
    }

    int behind(int a, int b) {
        return add(composed(find(a), find(b)));
    }

    int back(int change) {
        String old = find(change);
        StringBuilder turned = new StringBuilder();
        for (int bell = 0; bell < bells; bell++) {
            turned.append(old.indexOf('0' + bell));
        }
        return turn(change, turned.toString());
    }

    int repeat(int change, int times) {
        String old = find(change);
        if (times < 0 || times > 9999) {
            throw new IllegalArgumentException();
        }
        String made = all(bells).get(0);
        for (int i = 0; i < times; i++) {
            made = composed(made, old);
        }
        return turn(change, made);
    }

    int step(int kept) {
        if (kept < 0 || kept >= 1 << bells || !"".equals(pairs(kept).replace("oo", "").replace("x", ""))) {
            throw new IllegalArgumentException();
        }
        if (method.size() == 10) {
            throw new IllegalStateException();
        }
        method.add(kept);
        return method.size();
    }

    int clear() {
        int before = method.size();
        method.clear();
        return before;
    }

    int ring(int change, int steps) {
        String old = find(change);
        if (steps < 1 || steps > 200) {
            throw new IllegalArgumentException();
        }
        if (!method.isEmpty()) {
            rungInAll += steps;
        }
        List<String> rung = rung(old, steps);
        return turn(change, rung.get(rung.size() - 1));
    }

    int bell(int change, int place) {
        String old = find(change);
        checkPlace(place);
        return old.charAt(place) - '0';
    }

    int told(int change, int what) {
        String old = find(change);
        List<Integer> rings = rings(old);
        int number = 0;
        switch (what) {
            case 0:
                return rank(old);
            case 1:
                return inversions(old);
            case 2:
                // A ring of an even number of places is an odd change.
                for (int length : rings) {
                    number += length - 1;
                }
                return number % 2;
            case 3:
                return rings.size();
            case 4:
                for (int length : rings) {
                    number = Math.max(number, length);
                }
                return number;
            case 5:
                String made = old;
                for (number = 1; rank(made) != 0; number++) {
                    made = composed(made, old);
                }
                return number;
            case 6:
                for (int length : rings) {
                    number += length == 1 ? 1 : 0;
                }
                return number;
            case 7:
                return old.indexOf('0');
            default:
                throw new IndexOutOfBoundsException();
        }
    }

    int round(int change, int place) {
        String old = find(change);
        checkPlace(place);
        return ring(old, place).size();
    }

    int apart(int a, int b) {
        String from = find(a);
        String to = find(b);
        // The bells get the numbers of their places in the one, so that this one becomes the rounds.
        StringBuilder seen = new StringBuilder();
        for (int place = 0; place < bells; place++) {
            seen.append(from.indexOf(to.charAt(place)));
        }
        return swapsFromRounds(bells).get(seen.toString());
    }

    int count(int what) {
        switch (what) {
            case 0:
                return bells;
            case 1:
                return all(bells).size();
            case 2:
                return book.size();
            case 3:
                return new HashSet<>(book).size();
            case 4:
                return method.size();
            case 5:
                return rungInAll;
            default:
                throw new IndexOutOfBoundsException();
        }
    }

    int kept(int number) {
        if (number < 0 || number >= method.size()) {
            throw new IndexOutOfBoundsException();
        }
        return method.get(number);
    }

    int comes(int change) {
        String old = find(change);
        List<String> rung = rung(old, 400);
        for (int steps = 1; steps < rung.size(); steps++) {
            if (rung.get(steps).equals(old)) {
                return steps;
            }
        }
        return -1;
    }

    int differ(int steps) {
        if (steps < 1 || steps > 200) {
            throw new IllegalArgumentException();
        }
        return new HashSet<>(rung(all(bells).get(0), steps)).size();
    }

    int advise(int change) {
        String old = find(change);
        for (int fewest = 0; fewest <= 28; fewest++) {
            for (int number = 0; number < book.size(); number++) {
                if (inversions(composed(old, book.get(number))) == fewest) {
                    return number;
                }
            }
        }
        throw new AssertionError();
    }

    double mean() {
        double sum = 0;
        for (String change : book) {
            sum += rank(change);
        }
        return book.isEmpty() ? 0 : sum / book.size();
    }

    long digest() {
        List<Integer> numbers = new ArrayList<>();
        for (int what = 0; what <= 5; what++) {
            numbers.add(count(what));
        }
        for (int change = 0; change < book.size(); change++) {
            for (int what = 0; what <= 7; what++) {
                numbers.add(told(change, what));
            }
            for (char bell : book.get(change).toCharArray()) {
                numbers.add(bell - '0');
            }
        }
        numbers.addAll(method);
        long d = 1579;
        for (int number : numbers) {
            d = d * 31 + number;
        }
        return d;
    }

    // ---- what the calls share

    private String find(int change) {
        if (change < 0 || change >= book.size()) {
            throw new IndexOutOfBoundsException();
        }
        return book.get(change);
    }

    private void checkPlace(int place) {
        if (place < 0 || place >= bells) {
            throw new IndexOutOfBoundsException();
        }
    }

    private int add(String change) {
        if (book.size() == 16) {
            throw new IllegalStateException();
        }
        book.add(change);
        return book.size() - 1;
    }

    private int turn(int change, String now) {
        book.set(change, now);
        return rank(now);
    }

    private int rank(String change) {
        all(bells);
        return RANKS.get(bells).get(change);
    }

    private static String swapped(String change, int place) {
        return change.substring(0, place) + change.charAt(place + 1) + change.charAt(place)
            + change.substring(place + 2);
    }

    private static String composed(String first, String second) {
        StringBuilder made = new StringBuilder();
        for (char bell : second.toCharArray()) {
            made.append(first.charAt(bell - '0'));
        }
        return made.toString();
    }

    /** A sign for each place: x if it is kept, o if not. */
    private String pairs(int kept) {
        StringBuilder signs = new StringBuilder();
        for (int place = 0; place < bells; place++) {
            signs.append((kept & 1 << place) != 0 ? 'x' : 'o');
        }
        return signs.toString();
    }

    /** The change itself and what stands behind each step. */
    private List<String> rung(String change, int steps) {
        List<String> rung = new ArrayList<>();
        rung.add(change);
        for (int i = 0; i < steps && !method.isEmpty(); i++) {
            String now = rung.get(i);
            String signs = pairs(method.get(i % method.size()));
            for (int place = signs.indexOf("oo"); place >= 0; place = signs.indexOf("oo", place + 2)) {
                now = swapped(now, place);
            }
            rung.add(now);
        }
        return rung;
    }

    private static Set<Integer> ring(String change, int place) {
        Set<Integer> ring = new HashSet<>();
        int reached = place;
        while (ring.add(reached)) {
            reached = change.charAt(reached) - '0';
        }
        return ring;
    }

    private static List<Integer> rings(String change) {
        Set<Set<Integer>> rings = new HashSet<>();
        for (int place = 0; place < change.length(); place++) {
            rings.add(ring(change, place));
        }
        List<Integer> lengths = new ArrayList<>();
        for (Set<Integer> ring : rings) {
            lengths.add(ring.size());
        }
        return lengths;
    }

    private static int inversions(String change) {
        int inversions = 0;
        for (int i = 0; i < change.length(); i++) {
            for (int j = 0; j < i; j++) {
                inversions += change.charAt(j) > change.charAt(i) ? 1 : 0;
            }
        }
        return inversions;
    }

    /** All changes of so many bells, from the least one to the greatest one. */
    static List<String> all(int bells) {
        if (!ALL.containsKey(bells)) {
            List<String> changes = new ArrayList<>();
            addAll("", "01234567".substring(0, bells), changes);
            Map<String, Integer> ranks = new HashMap<>();
            for (String change : changes) {
                ranks.put(change, ranks.size());
            }
            ALL.put(bells, changes);
            RANKS.put(bells, ranks);
        }
        return ALL.get(bells);
    }

    private static void addAll(String begun, String left, List<String> changes) {
        if (left.isEmpty()) {
            changes.add(begun);
        }
        for (int i = 0; i < left.length(); i++) {
            addAll(begun + left.charAt(i), left.substring(0, i) + left.substring(i + 1), changes);
        }
    }

    private static Map<String, Integer> swapsFromRounds(int bells) {
        return SWAPS.computeIfAbsent(bells, PlainRanks::search);
    }

    private static Map<String, Integer> search(int bells) {
        Map<String, Integer> swaps = new LinkedHashMap<>();
        List<String> found = new ArrayList<>();
        found.add(all(bells).get(0));
        swaps.put(found.get(0), 0);
        for (int i = 0; i < found.size(); i++) {
            String change = found.get(i);
            for (int place = 0; place + 1 < bells; place++) {
                String other = swapped(change, place);
                if (!swaps.containsKey(other)) {
                    swaps.put(other, swaps.get(change) + 1);
                    found.add(other);
                }
            }
        }
        return swaps;
    }
}
