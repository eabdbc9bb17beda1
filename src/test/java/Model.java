import java.util.ArrayList;
import java.util.Arrays;
import java.util.HashMap;
import java.util.List;
import java.util.Map;
import java.util.TreeMap;
import java.util.TreeSet;

/**
 * The document written down a second time, in other ways than the class does it and without a thought for
 * speed or room: what the class is compared with.
 */
final class Model {
    private static final int NONE = -1;
    private static final long NO_WORTH = -9000000000000000000L;

    private final ModelText text = new ModelText();
    private final ModelSetting setting = new ModelSetting();
    private final List<Told> facts = new ArrayList<>();
    private final List<Integer> lastEditions = new ArrayList<>();
    private final List<Terms> agreements = new ArrayList<>();
    private final Map<Integer, Integer> days = new TreeMap<>();
    private final Map<String, Copies> copies = new HashMap<>();
    private final List<int[]> foretelling = new ArrayList<>();
    private List<int[]> found = new ArrayList<>();
    private int startDay = 0;
    private int price = 10;
    private int paper = 2;
    private int plates = 500;
    private int pulp = 0;
    private long purse = 0;

    Model() {
        for (int part = 0; part < 24; part++) {
            lastEditions.add(0);
        }
    }

    /** A fact: its words without the semicolon, and where it stands. */
    private static final class Told {
        private List<String> words;
        private int part;
        private int from;
        /** The first edition without it; no part has a fifth one. */
        private int until = 4;
    }

    private static final class Terms {
        private List<int[]> steps;
        private int late;
        private int part;
    }

    private static final class Copies {
        private int printed;
        private int sold;
        private int pulped;
        private int bound;
        private boolean kept;

        int left() {
            return printed - sold - pulped - bound;
        }
    }

    private static boolean between(int least, int number, int most) {
        return least <= number && number <= most;
    }

    // ---- tape

    int feed(int... numbers) {
        return text.feed(numbers);
    }

    boolean end(int n) {
        return text.end(n);
    }

    // ---- setting

    int paragraph(int cut) {
        return setting.paragraph(cut);
    }

    int word(int length) {
        return setting.word(length);
    }

    int clear() {
        return setting.clear();
    }

    boolean page(int wide, int lines, int lead, int widow) {
        return setting.page(wide, lines, lead, widow);
    }

    int lines(int p, int n) {
        return setting.lines(p, n);
    }

    int fill(int lines) {
        return setting.fill(lines);
    }

    int set(int p, int what) {
        return setting.set(p, what);
    }

    int line(int i, int what) {
        return setting.line(i, what);
    }

    // ---- facts

    int fact(int part, int edition) {
        List<String> words = text.fact();
        if (words == null) {
            return -1;
        }
        if (!has(part, edition) || facts.size() == 60) {
            return -2;
        }
        Told told = new Told();
        told.words = words;
        told.part = part;
        told.from = edition;
        facts.add(told);
        return facts.size() - 1;
    }

    int fault(int what) {
        return what == 0 ? text.fault : what == 1 ? text.place : NONE;
    }

    boolean strike(int fact, int edition) {
        if (!between(0, fact, facts.size() - 1)) {
            return false;
        }
        Told told = facts.get(fact);
        if (told.until != 4 || !has(told.part, edition) || edition <= told.from) {
            return false;
        }
        told.until = edition;
        return true;
    }

    int quarrel(int a, int b) {
        if (!between(0, a, facts.size() - 1) || !between(0, b, facts.size() - 1) || a == b) {
            return NONE;
        }
        return Math.max(quarrelOf(facts.get(a).words, facts.get(b).words),
            quarrelOf(facts.get(b).words, facts.get(a).words));
    }

    /** Each sort of quarrel in the one order in which the document tells it. */
    private static int quarrelOf(List<String> a, List<String> b) {
        if (!a.get(0).equals(b.get(0))) {
            return 0;
        }
        String how = a.get(1) + " " + b.get(1);
        int dayOfA = Integer.parseInt(a.get(a.size() - 1));
        int dayOfB = Integer.parseInt(b.get(b.size() - 1));
        if (how.equals("born born") || how.equals("dead dead")) {
            return dayOfA != dayOfB ? 1 : 0;
        }
        if (how.equals("in in")) {
            return dayOfA == dayOfB && !a.get(2).equals(b.get(2)) ? 2 : 0;
        }
        if (how.equals("in born") && dayOfA < dayOfB || how.equals("in dead") && dayOfA > dayOfB) {
            return 3;
        }
        return how.equals("dead born") && dayOfA < dayOfB ? 4 : 0;
    }

    int quarrels(int e) {
        if (!between(0, e, 3)) {
            return NONE;
        }
        found = new ArrayList<>();
        for (int a = 0; a < facts.size(); a++) {
            for (int b = a + 1; b < facts.size(); b++) {
                if (quarrel(a, b) > 0 && stands(facts.get(a), e) && stands(facts.get(b), e)) {
                    found.add(new int[] {a, b});
                }
            }
        }
        return found.size();
    }

    private boolean stands(Told told, int e) {
        return between(told.from, Math.min(e, lastEditions.get(told.part)), told.until - 1);
    }

    int found(int k, int what) {
        return between(0, k, found.size() - 1) && between(0, what, 1) ? found.get(k)[what] : NONE;
    }

    int mend(int part) {
        if (!between(0, part, 23) || lastEditions.get(part) == 3) {
            return NONE;
        }
        lastEditions.set(part, lastEditions.get(part) + 1);
        return lastEditions.get(part);
    }

    private boolean has(int part, int edition) {
        return between(0, part, 23) && between(0, edition, lastEditions.get(part));
    }

    // ---- agreements, days

    int agree(int part) {
        List<Integer> numbers = text.agreement();
        if (numbers == null) {
            return -1;
        }
        if (!between(0, part, 23) || agreements.size() == 12) {
            return -2;
        }
        Terms terms = new Terms();
        terms.steps = new ArrayList<>();
        for (int i = 0; i + 2 < numbers.size(); i += 2) {
            terms.steps.add(new int[] {numbers.get(i), numbers.get(i + 1)});
        }
        terms.steps.add(new int[] {numbers.get(numbers.size() - 2), Integer.MAX_VALUE});
        terms.late = numbers.get(numbers.size() - 1);
        terms.part = part;
        agreements.add(terms);
        return agreements.size() - 1;
    }

    int agreed(int part) {
        int last = NONE;
        for (int number = 0; between(0, part, 23) && number < agreements.size(); number++) {
            last = agreements.get(number).part <= part ? number : last;
        }
        return last;
    }

    long share(int part) {
        if (agreed(part) == NONE) {
            return NONE;
        }
        Terms terms = agreements.get(agreed(part));
        long sold = 0;
        for (int edition = 0; edition <= 3; edition++) {
            sold += of(part, edition).sold;
        }
        long sum = 0;
        for (int copy = 1; copy <= sold; copy++) {
            for (int[] step : terms.steps) {
                if (copy <= step[1]) {
                    sum += step[0] * (long) price;
                    break;
                }
            }
        }
        return Math.max(0, Math.floorDiv(sum, 100L) - (long) terms.late * lateBy(part));
    }

    boolean start(int day) {
        if (!between(0, day, 20000) || !days.isEmpty()) {
            return false;
        }
        startDay = day;
        return true;
    }

    int came(int part, int day) {
        boolean can = between(0, part, 23) && between(0, day, 30000) && !days.containsKey(part);
        if (!can || part > 0 && (!days.containsKey(part - 1) || days.get(part - 1) > day)) {
            return NONE;
        }
        days.put(part, day);
        return lateBy(part);
    }

    int due(int part) {
        if (!between(0, part, 23)) {
            return NONE;
        }
        if (part == 0) {
            return startDay;
        }
        int before = due(part - 1);
        int late = Math.max(0, days.getOrDefault(part - 1, before) - before);
        return before + 30 + 30 * (int) Math.ceil(late / 30.0);
    }

    private int lateBy(int part) {
        return days.containsKey(part) ? Math.max(0, days.get(part) - due(part)) : 0;
    }

    // ---- printing

    boolean prices(int newPrice, int newPaper, int newPlates, int newPulp) {
        boolean can = between(0, newPrice, 10000) && between(0, newPaper, 10000) && between(0, newPlates, 10000);
        if (!can || !between(0, newPulp, newPaper)) {
            return false;
        }
        price = newPrice;
        paper = newPaper;
        plates = newPlates;
        pulp = newPulp;
        return true;
    }

    private Copies of(int part, int edition) {
        return copies.computeIfAbsent(part + "/" + edition, name -> new Copies());
    }

    boolean keep(int part, int edition, boolean kept) {
        if (!has(part, edition) || of(part, edition).printed == 0) {
            return false;
        }
        of(part, edition).kept = kept;
        return true;
    }

    private long printing(int part, int edition, int c) {
        return c == 0 ? 0 : (long) paper * c + (of(part, edition).kept ? 0 : plates);
    }

    int print(int part, int edition, int c) {
        if (!has(part, edition) || !days.containsKey(part) || !between(1, c, 100000)) {
            return NONE;
        }
        long cost = printing(part, edition, c);
        purse -= cost;
        of(part, edition).printed += c;
        return Math.toIntExact(cost);
    }

    int sell(int part, int edition, int c) {
        if (!has(part, edition) || !between(1, c, of(part, edition).left())) {
            return NONE;
        }
        of(part, edition).sold += c;
        purse += (long) c * price;
        return of(part, edition).left();
    }

    int pulp(int part, int edition) {
        if (!has(part, edition)) {
            return NONE;
        }
        int c = of(part, edition).left();
        of(part, edition).pulped += c;
        purse += (long) c * pulp;
        return c;
    }

    int stock(int part, int edition, int what) {
        if (!has(part, edition) || !between(0, what, 5)) {
            return NONE;
        }
        Copies all = of(part, edition);
        return new int[] {all.printed, all.sold, all.pulped, all.bound, all.left(), all.kept ? 1 : 0}[what];
    }

    int volume(int from, int to, int edition, int n) {
        if (!between(0, from, to) || to > 23 || n < 1) {
            return -1;
        }
        int more = Integer.MAX_VALUE;
        for (int part = from; part <= to; part++) {
            if (!has(part, edition)) {
                return -1;
            }
            more = Math.min(more, of(part, edition).left() - n);
        }
        if (more < 0) {
            return -2;
        }
        for (int part = from; part <= to; part++) {
            of(part, edition).bound += n;
        }
        return more;
    }

    int foretell(int sale, int lots) {
        if (sale == NONE) {
            foretelling.clear();
            return 0;
        }
        if (!between(0, sale, 100000) || !between(1, lots, 99) || foretelling.size() == 8) {
            return NONE;
        }
        foretelling.add(new int[] {sale, lots});
        return foretelling.size();
    }

    int best(int part, int edition) {
        if (!has(part, edition) || foretelling.isEmpty()) {
            return NONE;
        }
        TreeSet<Integer> fewestFirst = new TreeSet<>(Arrays.asList(0));
        foretelling.forEach(row -> fewestFirst.add(row[0]));
        int best = 0;
        for (int c : fewestFirst) {
            best = worth(part, edition, c) > worth(part, edition, best) ? c : best;
        }
        return best;
    }

    long worth(int part, int edition, int c) {
        if (!has(part, edition) || foretelling.isEmpty() || !between(0, c, 100000)) {
            return NO_WORTH;
        }
        long worth = 0;
        for (int[] row : foretelling) {
            long sold = Math.min(c, row[0]);
            worth += row[1] * (price * sold + pulp * (c - sold) - printing(part, edition, c));
        }
        return worth;
    }

    long purse() {
        return purse;
    }
}
