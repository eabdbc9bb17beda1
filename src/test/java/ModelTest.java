import java.util.Random;

/** All promises at once: runs of calls on a new object, each answer compared with that of a model. */
public final class ModelTest {
    /** What an object is good for, less a score of calls that the last step may take. */
    private static final int CALLS = 512 - 20;
    private static final int[] EDGES = {Due.MIN, -2, -1, 0, 1, 2, 5, 30, 100, 99999, 100000, 100001, Due.MAX};
    private static final String[] NAMES = {
        "a", "eva", "tom", "rome", "bath", "abcdefghij", "abcdefghijk", "inn", "ona", "bor", "deads", "born", "in",
    };
    private static final String[] DAYS = {"0", "1", "2", "3", "4", "5", "00004", "99999", "99998", "100000", "7777777"};
    private static final String[] PERCENTS = {"0", "1", "7", "10", "33", "50", "99", "100", "101", "99999", "100000"};
    private static final String[] LATES = {"0", "1", "3", "50", "9999", "10000", "09999", "099999"};
    private static final String BYTES = "abon09;,. \n\u0000\u00ffA";

    private final TaleHouse house = new TaleHouse();
    private final Model model = new Model();
    private final Random random;
    private final int run;
    private int calls = 0;
    /** How many parts have come. */
    private int come = 0;
    /** About the most lines that the manuscript can take: in more of them it can't be set. */
    private int lengthAtMost = 1;

    private ModelTest(int run) {
        this.run = run;
        this.random = new Random(run);
    }

    public static void main(String[] args) {
        int runs = args.length > 0 ? Integer.parseInt(args[0]) : 800;
        for (int run = 0; run < runs; run++) {
            new ModelTest(run).ask();
        }
        Due.finish();
    }

    private void ask() {
        int theme = run % 5;
        for (int i = 0; theme > 1 && i < 3; i++) {
            start();
            agree();
            came();
        }
        while (calls < CALLS) {
            switch (theme < 4 ? theme : random.nextInt(4)) {
                case 0: stepOfSetting(); break;
                case 1: stepOfFacts(); break;
                case 2: stepOfDays(); break;
                default: stepOfPrinting(); break;
            }
        }
    }

    private void same(String call, long got, long want) {
        calls++;
        if (calls <= 512) {
            Due.is("run " + run + ", call " + calls + ", " + call, got, want);
        }
    }

    private void same(String call, boolean got, boolean want) {
        same(call, got ? 1 : 0, want ? 1 : 0);
    }

    /** A number from 0 up to one below the bound, now and then one that is at an edge or beyond it. */
    private int upTo(int bound) {
        if (random.nextInt(25) > 0) {
            return random.nextInt(bound);
        }
        return random.nextBoolean() ? bound - random.nextInt(2) : EDGES[random.nextInt(EDGES.length)];
    }

    private int one(int... of) {
        return of[random.nextInt(of.length)];
    }

    // ---- setting

    private void stepOfSetting() {
        switch (random.nextInt(12)) {
            case 0: paragraph(); break;
            case 1: words(); break;
            case 2: words(); break;
            case 3: clearOnceInAWhile(); break;
            case 4: page(); break;
            case 5: lines(); break;
            case 6: fill(); break;
            case 7: fill(); break;
            case 8: set(upTo(20), upTo(4)); break;
            default: line(upTo(40), upTo(3)); break;
        }
    }

    private void paragraph() {
        int cut = random.nextInt(9) == 0 ? upTo(100001) : one(-1, -1, 0, 1, 4, 30, 200, -2);
        same("paragraph(" + cut + ")", house.paragraph(cut), model.paragraph(cut));
        lengthAtMost += 2;
    }

    private void words() {
        int longest = random.nextInt(30) > 0 ? one(3, 8, 10) : 20;
        for (int i = random.nextInt(8); i >= 0; i--) {
            int length = 1 + upTo(longest);
            same("word(" + length + ")", house.word(length), model.word(length));
            lengthAtMost++;
        }
    }

    private void clearOnceInAWhile() {
        if (random.nextInt(8) == 0) {
            same("clear()", house.clear(), model.clear());
            lengthAtMost = 1;
        }
    }

    private void page() {
        int wide = random.nextInt(3) == 0 ? upTo(62) : one(10, 11, 12, 17, 20);
        int pageLines = random.nextInt(3) == 0 ? upTo(42) : one(5, 6, 7);
        int lead = random.nextInt(4) == 0 ? upTo(100001) : one(0, 1, 4, 9, 50);
        int widow = random.nextInt(4) == 0 ? upTo(100001) : one(0, 1, 4, 25, 200);
        same("page(" + wide + ", " + pageLines + ", " + lead + ", " + widow + ")",
            house.page(wide, pageLines, lead, widow), model.page(wide, pageLines, lead, widow));
    }

    private void lines() {
        int p = upTo(8);
        int n = upTo(random.nextBoolean() ? 6 : 31);
        same("lines(" + p + ", " + n + ")", house.lines(p, n), model.lines(p, n));
    }

    private void fill() {
        int length = upTo(random.nextInt(9) > 0 ? Math.min(120, lengthAtMost) : 121);
        same("fill(" + length + ")", house.fill(length), model.fill(length));
        for (int i = 0; i < 4; i++) {
            set(random.nextInt(5), random.nextInt(4));
            line(random.nextInt(Math.max(1, length)), random.nextInt(3));
        }
    }

    private void set(int p, int what) {
        same("set(" + p + ", " + what + ")", house.set(p, what), model.set(p, what));
    }

    private void line(int i, int what) {
        same("line(" + i + ", " + what + ")", house.line(i, what), model.line(i, what));
    }

    // ---- texts

    private String blanks(boolean needed) {
        StringBuilder blanks = new StringBuilder(needed || random.nextBoolean() ? " " : "");
        while (random.nextInt(6) == 0) {
            blanks.append(random.nextBoolean() ? ' ' : '\n');
        }
        return blanks.toString();
    }

    private String joined(String... tokens) {
        StringBuilder text = new StringBuilder(random.nextInt(9) == 0 ? blanks(false) : "");
        for (int i = 0; i < tokens.length; i++) {
            boolean twoWords = i > 0 && Character.isLetter(tokens[i].charAt(0))
                && Character.isLetter(tokens[i - 1].charAt(0));
            text.append(i > 0 ? blanks(twoWords && random.nextInt(30) > 0) : "").append(tokens[i]);
        }
        return text.append(random.nextInt(9) == 0 ? blanks(false) : "").toString();
    }

    private String factText() {
        String name = NAMES[random.nextInt(random.nextInt(5) > 0 ? 3 : NAMES.length)];
        String day = DAYS[random.nextInt(random.nextInt(5) > 0 ? 6 : DAYS.length)];
        switch (random.nextInt(3)) {
            case 0: return joined(name, "born", day, ";");
            case 1: return joined(name, "dead", day, ";");
            default: return joined(name, "in", NAMES[random.nextInt(random.nextInt(5) > 0 ? 5 : NAMES.length)],
                "on", day, ";");
        }
    }

    private String agreementText() {
        StringBuilder text = new StringBuilder();
        int to = 0;
        for (int i = one(0, 0, 1, 1, 2, 3, 4, 5); i > 0; i--) {
            to += random.nextInt(12) == 0 ? one(0, 0, -1, 99999, 100000) : 1 + random.nextInt(one(3, 40, 9000));
            text.append(joined(percent(), "percent", "to", String.valueOf(Math.max(0, to)), ","));
        }
        String late = LATES[random.nextInt(random.nextInt(5) > 0 ? 4 : LATES.length)];
        return text.append(joined(percent(), "percent", "late", late, ";")).toString();
    }

    private String percent() {
        return PERCENTS[random.nextInt(random.nextInt(12) > 0 ? 8 : PERCENTS.length)];
    }

    /** A byte is lost, comes in, or is another one. */
    private String spoilt(String text) {
        int at = random.nextInt(text.length() + 1);
        int behind = Math.min(text.length(), at + random.nextInt(2));
        String in = random.nextInt(3) == 0 ? "" : "" + BYTES.charAt(random.nextInt(BYTES.length()));
        return text.substring(0, at) + in + text.substring(behind);
    }

    private void type(String text) {
        if (random.nextInt(4) == 0) {
            same("end(0)", house.end(0), model.end(0));
        }
        String whole = random.nextInt(4) == 0 ? spoilt(text) : text;
        for (int i = 0; i < whole.length(); i += 20) {
            feed(four(whole, i), four(whole, i + 4), four(whole, i + 8), four(whole, i + 12), four(whole, i + 16));
        }
        int n = random.nextInt(20) == 0 ? upTo(whole.length() + 1) : whole.length();
        same("end(" + n + ") of '" + whole + "'", house.end(n), model.end(n));
    }

    private void feedMuch() {
        for (int i = random.nextInt(random.nextInt(3) > 0 ? 2 : 13); i >= 0; i--) {
            feed(random.nextInt(), random.nextInt(), random.nextInt(), upTo(9), upTo(9));
        }
    }

    private void feed(int a, int b, int c, int d, int e) {
        same("feed(" + a + ", ..)", house.feed(a, b, c, d, e), model.feed(a, b, c, d, e));
    }

    private static int four(String text, int from) {
        int number = 0;
        for (int i = from; i < from + 4; i++) {
            number = number << 8 | (i < text.length() ? text.charAt(i) & 255 : 32);
        }
        return number;
    }

    private void fault() {
        same("fault(0)", house.fault(0), model.fault(0));
        same("fault(1)", house.fault(1), model.fault(1));
    }

    // ---- facts

    private void stepOfFacts() {
        int small = upTo(10);
        int edition = upTo(4);
        switch (random.nextInt(14)) {
            case 0: same("mend(" + small + ")", house.mend(small), model.mend(small)); break;
            case 1: strike(upTo(20), edition); break;
            case 2: strike(upTo(60), edition); break;
            case 3: quarrel(upTo(15), upTo(15)); break;
            case 4: quarrel(upTo(60), upTo(60)); break;
            case 5: quarrels(edition); break;
            case 6: found(upTo(20), upTo(2)); break;
            case 7: same("fault(" + small + ")", house.fault(small), model.fault(small)); break;
            case 8: feedMuch(); break;
            default: fact(); break;
        }
    }

    private void fact() {
        if (random.nextInt(12) > 0) {
            type(random.nextInt(20) > 0 ? factText() : agreementText());
        }
        int part = upTo(random.nextInt(3) > 0 ? 3 : 24);
        int edition = random.nextInt(3) > 0 ? 0 : upTo(4);
        same("fact(" + part + ", " + edition + ")", house.fact(part, edition), model.fact(part, edition));
        if (random.nextInt(3) == 0) {
            fault();
        }
    }

    private void strike(int fact, int edition) {
        same("strike(" + fact + ", " + edition + ")", house.strike(fact, edition), model.strike(fact, edition));
    }

    private void quarrel(int a, int b) {
        same("quarrel(" + a + ", " + b + ")", house.quarrel(a, b), model.quarrel(a, b));
    }

    private void quarrels(int e) {
        same("quarrels(" + e + ")", house.quarrels(e), model.quarrels(e));
        for (int i = 0; i < 4; i++) {
            found(random.nextInt(12), random.nextInt(2));
        }
    }

    private void found(int k, int what) {
        same("found(" + k + ", " + what + ")", house.found(k, what), model.found(k, what));
    }

    // ---- agreements, days

    private void stepOfDays() {
        int part = upTo(random.nextInt(3) > 0 ? Math.max(1, Math.min(4, come)) : 24);
        switch (random.nextInt(10)) {
            case 0: same("agreed(" + part + ")", house.agreed(part), model.agreed(part)); break;
            case 1: share(part); break;
            case 2: same("due(" + part + ")", house.due(part), model.due(part)); break;
            case 3: start(); break;
            case 4: came(); break;
            case 5: agree(); break;
            default: stepOfPrinting(); break;
        }
    }

    private void share(int part) {
        same("share(" + part + ")", house.share(part), model.share(part));
    }

    private void start() {
        int day = upTo(random.nextBoolean() ? 100 : 20001);
        same("start(" + day + ")", house.start(day), model.start(day));
    }

    private void came() {
        int part = random.nextInt(4) > 0 ? come : upTo(24);
        int due = Math.max(0, model.due(part));
        int day = random.nextInt(30) > 0 ? due + one(-31, -1, 0, 1, 29, 30, 31, 60, 61, 100) : upTo(30001);
        int late = model.came(part, day);
        same("came(" + part + ", " + day + ")", house.came(part, day), late);
        come += late >= 0 ? 1 : 0;
    }

    private void agree() {
        type(random.nextInt(20) > 0 ? agreementText() : factText());
        int part = upTo(random.nextInt(3) > 0 ? 4 : 24);
        same("agree(" + part + ")", house.agree(part), model.agree(part));
        fault();
    }

    // ---- printing

    private void stepOfPrinting() {
        int part = upTo(random.nextInt(8) > 0 ? Math.max(1, Math.min(4, come)) : 24);
        int edition = random.nextInt(3) > 0 ? 0 : upTo(3);
        switch (random.nextInt(16)) {
            case 0: prices(); break;
            case 1: keep(part, edition, random.nextInt(3) > 0); break;
            case 2: sell(part, edition); break;
            case 3: sell(part, edition); break;
            case 4: same("pulp(" + part + ", " + edition + ")", house.pulp(part, edition), model.pulp(part, edition));
                break;
            case 5: stock(part, edition, upTo(6)); break;
            case 6: volume(part, edition); break;
            case 7: foretell(); break;
            case 8: foretell(); break;
            case 9: best(part, edition); break;
            case 10: worth(part, edition); break;
            case 11: same("purse()", house.purse(), model.purse()); break;
            case 12: same("mend(" + part + ")", house.mend(part), model.mend(part)); break;
            case 13: came(); break;
            default: print(part, edition); break;
        }
    }

    private void prices() {
        int most = one(4, 20, 10001);
        int price = upTo(most);
        int paper = upTo(most);
        int plates = upTo(one(1, 100, 10001));
        int pulp = random.nextInt(3) > 0 ? Math.max(0, Math.min(paper, random.nextInt(most))) : upTo(most);
        same("prices(" + price + ", " + paper + ", " + plates + ", " + pulp + ")",
            house.prices(price, paper, plates, pulp), model.prices(price, paper, plates, pulp));
    }

    private void keep(int part, int edition, boolean kept) {
        same("keep(" + part + ", " + edition + ", " + kept + ")",
            house.keep(part, edition, kept), model.keep(part, edition, kept));
    }

    private void print(int part, int edition) {
        int copies = upTo(random.nextInt(20) > 0 ? 900 : 100001);
        same("print(" + part + ", " + edition + ", " + copies + ")",
            house.print(part, edition, copies), model.print(part, edition, copies));
        stock(part, edition, random.nextInt(6));
    }

    private void sell(int part, int edition) {
        if (model.stock(part, edition, 4) == 0) {
            print(part, edition);
        }
        int left = Math.max(0, model.stock(part, edition, 4));
        int copies = random.nextInt(3) > 0 ? upTo(left + 1) : left + one(-1, 0, 1);
        same("sell(" + part + ", " + edition + ", " + copies + ")",
            house.sell(part, edition, copies), model.sell(part, edition, copies));
        stock(part, edition, random.nextInt(6));
        share(part);
    }

    private void stock(int part, int edition, int what) {
        same("stock(" + part + ", " + edition + ", " + what + ")",
            house.stock(part, edition, what), model.stock(part, edition, what));
    }

    private void volume(int from, int edition) {
        int to = random.nextBoolean() ? from : upTo(random.nextInt(9) > 0 ? 4 : 24);
        int n = upTo(random.nextBoolean() ? 5 : 400);
        same("volume(" + from + ", " + to + ", " + edition + ", " + n + ")",
            house.volume(from, to, edition, n), model.volume(from, to, edition, n));
        stock(from, edition, 3 + random.nextInt(2));
    }

    private void foretell() {
        int sale = random.nextInt(12) == 0 ? -1 : upTo(one(5, 900, 100001));
        int lots = 1 + upTo(99);
        same("foretell(" + sale + ", " + lots + ")", house.foretell(sale, lots), model.foretell(sale, lots));
    }

    private void best(int part, int edition) {
        same("best(" + part + ", " + edition + ")", house.best(part, edition), model.best(part, edition));
    }

    private void worth(int part, int edition) {
        int copies = upTo(one(5, 900, 100001));
        same("worth(" + part + ", " + edition + ", " + copies + ")",
            house.worth(part, edition, copies), model.worth(part, edition, copies));
    }
}
