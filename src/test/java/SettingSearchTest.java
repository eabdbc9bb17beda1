import java.util.ArrayList;
import java.util.Arrays;
import java.util.List;
import java.util.Random;

/** Promises 8 to 11 against a search through all settings of small manuscripts. */
public final class SettingSearchTest {
    private static final int MOST_LINES = 24;
    /** So many fillings of one object, with all that is asked of them, stay within its 512 calls. */
    private static final int FILLS = 4;

    private final int[][] words;
    private final int[] cuts;
    private final int wide;
    private final int pageLines;
    private final int lead;
    private final int widow;
    /** By lines: cost, then all of (cut, leads, lines), then all lines' words; the first in order. */
    private final int[][] first = new int[MOST_LINES + 1][];
    private final List<int[]> chosen = new ArrayList<>();

    private SettingSearchTest(Random random) {
        int count = 1 + random.nextInt(4);
        int most = count < 4 ? 5 : 3;
        words = new int[count][];
        cuts = new int[count];
        for (int p = 0; p < count; p++) {
            words[p] = new int[random.nextInt(most + 1)];
            for (int w = 0; w < words[p].length; w++) {
                words[p][w] = random.nextInt(40) == 0 ? 14 : 1 + random.nextInt(random.nextBoolean() ? 4 : 9);
            }
            cuts[p] = pick(random, -1, -1, 0, 5, 40, 300);
        }
        wide = 10 + random.nextInt(3);
        pageLines = 5 + random.nextInt(2);
        lead = pick(random, 0, 1, 9, 50);
        widow = pick(random, 0, 4, 9, 200);
    }

    public static void main(String[] args) {
        Random random = new Random(20261116);
        for (int round = 0; round < 400; round++) {
            SettingSearchTest search = new SettingSearchTest(random);
            search.chooseFrom(0);
            search.compare(round);
        }
        Due.finish();
    }

    private static int pick(Random random, int... of) {
        return of[random.nextInt(of.length)];
    }

    private void chooseFrom(int p) {
        if (p == words.length) {
            weigh();
            return;
        }
        if (cuts[p] >= 0) {
            chosen.add(null);
            chooseFrom(p + 1);
            chosen.remove(p);
        }
        boolean opens = chosen.stream().allMatch(c -> c == null);
        int breaks = words[p].length == 0 ? 1 : 1 << (words[p].length - 1);
        for (int leads = 0; leads <= (opens ? 0 : 2); leads++) {
            for (int mask = 0; mask < breaks; mask++) {
                int[] lines = linesOf(p, mask);
                if (fits(p, lines)) {
                    int[] choice = new int[lines.length + 1];
                    choice[0] = leads;
                    System.arraycopy(lines, 0, choice, 1, lines.length);
                    chosen.add(choice);
                    chooseFrom(p + 1);
                    chosen.remove(p);
                }
            }
        }
    }

    private int[] linesOf(int p, int mask) {
        int[] lines = new int[words[p].length];
        int at = -1;
        for (int w = 0; w < words[p].length; w++) {
            if (w == 0 || (mask >> (w - 1) & 1) == 1) {
                at++;
            }
            lines[at]++;
        }
        return Arrays.copyOf(lines, at + 1);
    }

    private boolean fits(int p, int[] lines) {
        int word = 0;
        for (int n : lines) {
            if (letters(p, word, n) > wide) {
                return false;
            }
            word += n;
        }
        return true;
    }

    private int letters(int p, int word, int n) {
        return Arrays.stream(words[p], word, word + n).sum() + n - 1;
    }

    private void weigh() {
        int cost = 0;
        int line = 0;
        List<Integer> order = new ArrayList<>();
        List<Integer> breaks = new ArrayList<>();
        for (int p = 0; p < words.length; p++) {
            int[] choice = chosen.get(p);
            if (choice == null) {
                cost += cuts[p];
                order.addAll(List.of(1, 0, 0));
                continue;
            }
            int n = choice.length - 1;
            order.addAll(List.of(0, choice[0], n));
            cost += choice[0] * lead;
            line += choice[0];
            int word = 0;
            for (int i = 1; i <= n; i++) {
                int lack = wide - letters(p, word, choice[i]);
                cost += i == n ? 0 : lack * lack;
                word += choice[i];
                breaks.add(-choice[i]);
            }
            if (n >= 2 && line % pageLines == pageLines - 1) {
                cost += widow;
            }
            if (n >= 2 && (line + n - 1) % pageLines == 0) {
                cost += widow;
            }
            line += n;
        }
        order.add(0, cost);
        order.addAll(breaks);
        int[] key = order.stream().mapToInt(i -> i).toArray();
        if (line >= 1 && line <= MOST_LINES && (first[line] == null || Arrays.compare(key, first[line]) < 0)) {
            first[line] = key;
        }
    }

    private void compare(int round) {
        TaleHouse x = null;
        for (int length = 1; length <= MOST_LINES; length++) {
            if (length % FILLS == 1) {
                x = typed();
                for (int p = 0; p < words.length; p++) {
                    compareLines(x, round, p);
                }
            }
            String call = "round " + round + ": fill(" + length + ")";
            Due.is(call, x.fill(length), first[length] == null ? -2 : first[length][0]);
            if (first[length] != null) {
                compareSetting(x, call, length);
            }
        }
    }

    private TaleHouse typed() {
        TaleHouse x = new TaleHouse();
        x.page(wide, pageLines, lead, widow);
        for (int p = 0; p < words.length; p++) {
            x.paragraph(cuts[p]);
            for (int length : words[p]) {
                x.word(length);
            }
        }
        return x;
    }

    private void compareLines(TaleHouse x, int round, int p) {
        int[] least = new int[words[p].length + 2];
        Arrays.fill(least, -2);
        int breaks = words[p].length == 0 ? 1 : 1 << (words[p].length - 1);
        for (int mask = 0; mask < breaks; mask++) {
            int[] lines = linesOf(p, mask);
            if (fits(p, lines)) {
                int cost = 0;
                int word = 0;
                for (int i = 0; i < lines.length - 1; i++) {
                    int lack = wide - letters(p, word, lines[i]);
                    cost += lack * lack;
                    word += lines[i];
                }
                least[lines.length] = least[lines.length] == -2 ? cost : Math.min(cost, least[lines.length]);
            }
        }
        for (int n = 0; n < least.length; n++) {
            Due.is("round " + round + ": lines(" + p + ", " + n + ")", x.lines(p, n), least[n]);
        }
    }

    private void compareSetting(TaleHouse x, String call, int length) {
        int[] key = first[length];
        int line = 0;
        int at = 1 + 3 * words.length;
        for (int p = 0; p < words.length; p++) {
            int cut = key[1 + 3 * p];
            int leads = key[2 + 3 * p];
            int n = key[3 + 3 * p];
            Due.is(call + ", set(" + p + ", 0)", x.set(p, 0), cut);
            Due.is(call + ", set(" + p + ", 1)", x.set(p, 1), leads);
            Due.is(call + ", set(" + p + ", 2)", x.set(p, 2), n == 0 ? -1 : line + leads);
            Due.is(call + ", set(" + p + ", 3)", x.set(p, 3), n);
            for (int i = 0; i < leads; i++) {
                compareLine(x, call, line++, -1, -1, -1);
            }
            int word = 0;
            for (int i = 0; i < n; i++) {
                compareLine(x, call, line++, p, word, -key[at]);
                word -= key[at++];
            }
        }
        Due.is(call + ", all lines", line, length);
    }

    private static void compareLine(TaleHouse x, String call, int line, int p, int word, int count) {
        Due.is(call + ", line(" + line + ", 0)", x.line(line, 0), p);
        Due.is(call + ", line(" + line + ", 1)", x.line(line, 1), word);
        Due.is(call + ", line(" + line + ", 2)", x.line(line, 2), count);
    }
}
