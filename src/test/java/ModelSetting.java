import java.util.ArrayList;
import java.util.Arrays;
import java.util.HashMap;
import java.util.List;
import java.util.Map;

/** The manuscript of the model: of all choices, with all that follows, the first one in the document's order. */
final class ModelSetting {
    /** A cost and what was chosen, in numbers of which the lesser goes first. */
    private static final class Way {
        private final int cost;
        private final List<Integer> choices = new ArrayList<>();

        Way(int cost, Way rest, Integer... chosen) {
            this.cost = cost + rest.cost;
            choices.addAll(Arrays.asList(chosen));
            choices.addAll(rest.choices);
        }

        Way() {
            cost = 0;
        }

        boolean isAheadOf(Way other) {
            if (other == null || cost != other.cost) {
                return other == null || cost < other.cost;
            }
            for (int i = 0; i < choices.size(); i++) {
                if (!choices.get(i).equals(other.choices.get(i))) {
                    return choices.get(i) < other.choices.get(i);
                }
            }
            return false;
        }
    }

    private final List<List<Integer>> words = new ArrayList<>();
    private final List<Integer> cuts = new ArrayList<>();
    private int wide = 40;
    private int pageLines = 20;
    private int lead = 50;
    private int widow = 200;
    private Map<List<Integer>, Way> known = new HashMap<>();
    private final List<int[]> set = new ArrayList<>();
    private final List<int[]> lines = new ArrayList<>();

    int paragraph(int cut) {
        if (cut < -1 || cut > 100000 || words.size() == 20) {
            return -1;
        }
        words.add(new ArrayList<>());
        cuts.add(cut);
        return words.size() - 1;
    }

    int word(int length) {
        if (words.isEmpty() || length < 1 || length > 20 || last().size() == 30) {
            return -1;
        }
        last().add(length);
        return last().size();
    }

    private List<Integer> last() {
        return words.get(words.size() - 1);
    }

    int clear() {
        int had = words.size();
        words.clear();
        cuts.clear();
        return had;
    }

    boolean page(int newWide, int newLines, int newLead, int newWidow) {
        boolean can = newWide >= 10 && newWide <= 60 && newLines >= 5 && newLines <= 40;
        if (!can || newLead < 0 || newLead > 100000 || newWidow < 0 || newWidow > 100000) {
            return false;
        }
        wide = newWide;
        pageLines = newLines;
        lead = newLead;
        widow = newWidow;
        return true;
    }

    int lines(int p, int n) {
        if (p < 0 || p >= words.size() || n < 0) {
            return -1;
        }
        known = new HashMap<>();
        Way way = breaks(p, 0, n);
        return way == null ? -2 : way.cost;
    }

    /** The breaks of all words from one on in so many lines: of each line minus its words; null if there are none. */
    private Way breaks(int p, int from, int n) {
        List<Integer> of = words.get(p);
        if (n == 0 || n > of.size()) {
            return n == 0 && from == of.size() ? new Way() : null;
        }
        List<Integer> key = Arrays.asList(0, p, from, n);
        if (known.containsKey(key)) {
            return known.get(key);
        }
        Way first = null;
        for (int next = from + 1; next <= of.size(); next++) {
            int letters = next - from - 1 + of.subList(from, next).stream().mapToInt(i -> i).sum();
            Way rest = letters > wide ? null : breaks(p, next, n - 1);
            if (rest != null) {
                Way way = new Way(n == 1 ? 0 : (wide - letters) * (wide - letters), rest, from - next);
                first = way.isAheadOf(first) ? way : first;
            }
        }
        known.put(key, first);
        return first;
    }

    int fill(int length) {
        if (length < 1 || length > 120) {
            return -1;
        }
        known = new HashMap<>();
        Way way = from(0, 0, false, length);
        if (way == null) {
            return -2;
        }
        tell(way);
        return way.cost;
    }

    /** All paragraphs from one on, the next line being this one: of each whether it is cut, leads, lines. */
    private Way from(int p, int line, boolean opened, int length) {
        if (p == words.size() || line > length) {
            return line == length ? new Way() : null;
        }
        List<Integer> key = Arrays.asList(1, p, line, opened ? 1 : 0);
        if (known.containsKey(key)) {
            return known.get(key);
        }
        Way first = null;
        for (int leads = 0; leads <= (opened ? 2 : 0); leads++) {
            for (int n = 0; n <= words.get(p).size(); n++) {
                Way own = breaks(p, 0, n);
                Way rest = own == null ? null : from(p + 1, line + leads + n, true, length);
                int cost = rest == null ? 0 : leads * lead + own.cost + widows(line + leads, n);
                if (rest != null && (first == null || cost + rest.cost <= first.cost)) {
                    Way way = new Way(cost, rest, 0, leads, n);
                    first = way.isAheadOf(first) ? way : first;
                }
            }
        }
        Way rest = cuts.get(p) == -1 ? null : from(p + 1, line, opened, length);
        if (rest != null) {
            Way way = new Way(cuts.get(p), rest, 1, 0, 0);
            first = way.isAheadOf(first) ? way : first;
        }
        known.put(key, first);
        return first;
    }

    private int widows(int first, int n) {
        int cost = 0;
        for (int end = pageLines - 1; n >= 2 && end <= first + n; end += pageLines) {
            cost += first == end ? widow : 0;
            cost += first + n - 1 == end + 1 ? widow : 0;
        }
        return cost;
    }

    private void tell(Way way) {
        set.clear();
        lines.clear();
        for (int p = 0; p < words.size(); p++) {
            List<Integer> chosen = way.choices.subList(3 * p, 3 * p + 3);
            for (int i = 0; i < chosen.get(1); i++) {
                lines.add(new int[] {-1, -1, -1});
            }
            set.add(new int[] {chosen.get(0), chosen.get(1), chosen.get(2) == 0 ? -1 : lines.size(), chosen.get(2)});
            int from = 0;
            for (int minus : chosen.get(2) == 0 ? new ArrayList<Integer>() : breaks(p, 0, chosen.get(2)).choices) {
                lines.add(new int[] {p, from, -minus});
                from -= minus;
            }
        }
    }

    int set(int p, int what) {
        return p >= 0 && p < set.size() && what >= 0 && what <= 3 ? set.get(p)[what] : -1;
    }

    int line(int i, int what) {
        return i >= 0 && i < lines.size() && what >= 0 && what <= 2 ? lines.get(i)[what] : -1;
    }
}
