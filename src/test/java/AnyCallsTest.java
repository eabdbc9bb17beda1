import java.util.Random;

/** Any calls with any arguments: none throws, equal calls answer alike, and the copies agree. */
public final class AnyCallsTest {
    /** A step that types a text takes several calls: so many steps stay within the 512 calls of an object. */
    private static final int STEPS = 260;
    private static final int[] EDGES = {
        Due.MIN, Due.MAX, -2, -1, 0, 1, 2, 3, 4, 5, 19, 20, 23, 24, 29, 30, 31, 40, 59, 60, 61,
        99, 100, 119, 120, 121, 200, 9999, 10000, 10001, 20000, 20001, 30000, 30001, 99999, 100000, 100001,
    };
    private static final String[] PIECES = {
        "eva", "tom", "rome", "born", "dead", "in", "on", "3", "10", "99999", "123456", ";", ",", "percent", "to",
        "late", "abcdefghijk", " ", "\n", "A", "\u00ff",
    };
    private static final String[] TEXTS = {
        "eva born 3;", "eva dead 9;", "eva in rome on 5;", "eva in bath on 5;", "tom born 70;", "tom dead 60;",
        "10 percent to 5, 12 percent late 3;", "50 percent late 1;",
    };

    public static void main(String[] args) {
        for (int seed = 0; seed < 3000; seed++) {
            long one = run(new Random(seed));
            long other = run(new Random(seed));
            Due.is("run " + seed + " made again", other, one);
        }
        Due.finish();
    }

    private static long run(Random random) {
        TaleHouse x = new TaleHouse();
        long sum = 0;
        boolean wild = random.nextInt(4) == 0;
        for (int i = 0; i < STEPS; i++) {
            sum = sum * 31 + call(x, random, wild);
        }
        agree(x);
        // behind 512 calls the answers are free, but no call may throw
        for (int i = 0; i < STEPS; i++) {
            call(x, random, wild);
        }
        return sum;
    }

    /** What was printed is sold, pulped, in volumes or left; asked of the parts and editions that steps print. */
    private static void agree(TaleHouse x) {
        for (int part = 0; part < 6; part++) {
            for (int edition = 0; edition < 2; edition++) {
                int others = x.stock(part, edition, 1) + x.stock(part, edition, 2)
                    + x.stock(part, edition, 3) + x.stock(part, edition, 4);
                int printed = x.stock(part, edition, 0);
                Due.is("copies of " + part + ", " + edition, others, printed == -1 ? -4 : printed);
            }
        }
    }

    private static int any(Random random, boolean wild, int below) {
        if (wild || random.nextInt(30) == 0) {
            return random.nextBoolean() ? EDGES[random.nextInt(EDGES.length)] : random.nextInt();
        }
        return random.nextInt(below);
    }

    private static String text(Random random) {
        if (random.nextInt(3) > 0) {
            return TEXTS[random.nextInt(TEXTS.length)];
        }
        StringBuilder text = new StringBuilder();
        for (int i = random.nextInt(12); i > 0; i--) {
            text.append(PIECES[random.nextInt(PIECES.length)]).append(random.nextBoolean() ? " " : "");
        }
        return text.toString();
    }

    private static long call(TaleHouse x, Random r, boolean wild) {
        switch (r.nextInt(4)) {
            case 0: return setting(x, r, wild);
            case 1: return telling(x, r, wild);
            case 2: return days(x, r, wild);
            default: return printing(x, r, wild);
        }
    }

    private static long setting(TaleHouse x, Random r, boolean wild) {
        switch (r.nextInt(10)) {
            case 0: return x.paragraph(any(r, wild, 400) - 1);
            case 1: return r.nextInt(30) == 0 ? x.clear() : 0;
            case 2: return x.page(any(r, wild, 60), any(r, wild, 40), any(r, wild, 99), any(r, wild, 99)) ? 1 : 0;
            case 3: return x.lines(any(r, wild, 20), any(r, wild, 31));
            case 4: return x.fill(any(r, wild, 120));
            case 5: return x.set(any(r, wild, 20), any(r, wild, 5));
            case 6: return x.line(any(r, wild, 120), any(r, wild, 4));
            default: return x.word(any(r, wild, 21));
        }
    }

    private static long telling(TaleHouse x, Random r, boolean wild) {
        switch (r.nextInt(10)) {
            case 0: return x.feed(any(r, wild, 9), r.nextInt(), r.nextInt(), r.nextInt(), any(r, wild, 9));
            case 1: return x.end(any(r, wild, 200)) ? 1 : 0;
            case 2: return x.fault(any(r, wild, 3));
            case 3: return x.strike(any(r, wild, 20), any(r, wild, 4)) ? 1 : 0;
            case 4: return x.quarrel(any(r, wild, 20), any(r, wild, 20));
            case 5: return x.quarrels(any(r, wild, 4));
            case 6: return x.found(any(r, wild, 20), any(r, wild, 3));
            case 7: return x.mend(any(r, wild, 24));
            default:
                x.end(0);
                Due.lay(x, text(r));
                return r.nextBoolean() ? x.fact(any(r, wild, 24), any(r, wild, 2)) : x.agree(any(r, wild, 24));
        }
    }

    private static long days(TaleHouse x, Random r, boolean wild) {
        switch (r.nextInt(6)) {
            case 0: return x.agreed(any(r, wild, 24));
            case 1: return x.share(any(r, wild, 24));
            case 2: return x.start(any(r, wild, 100)) ? 1 : 0;
            case 3: return x.due(any(r, wild, 24));
            default: return x.came(any(r, wild, 6), any(r, wild, 200));
        }
    }

    private static long printing(TaleHouse x, Random r, boolean wild) {
        int part = any(r, wild, 6);
        int edition = any(r, wild, 2);
        switch (r.nextInt(12)) {
            case 0: return x.prices(any(r, wild, 99), any(r, wild, 99), any(r, wild, 99), any(r, wild, 9)) ? 1 : 0;
            case 1: return x.keep(part, edition, r.nextBoolean()) ? 1 : 0;
            case 2: return x.sell(part, edition, any(r, wild, 50));
            case 3: return x.pulp(part, edition);
            case 4: return x.stock(part, edition, any(r, wild, 7));
            case 5: return x.volume(part, any(r, wild, 6), edition, any(r, wild, 20));
            case 6: return x.foretell(any(r, wild, 999) - 1, any(r, wild, 99));
            case 7: return x.best(part, edition);
            case 8: return x.worth(part, edition, any(r, wild, 999));
            case 9: return x.purse();
            default: return x.print(part, edition, any(r, wild, 100));
        }
    }
}
