import java.util.ArrayList;
import java.util.LinkedHashMap;
import java.util.List;
import java.util.Map;

/**
 * What a refused call leaves as it was: a house that refused it answers everything as its twin does that was
 * never asked. Both are made anew for each of the askers, as these change the house, too.
 */
public final class RefusedTest {
    private static final int BLANKS = 0x20202020;
    private static final int[] FAR = {Due.MIN, -2, Due.MAX};

    private interface Call {
        long on(TaleHouse x);
    }

    private interface Maker {
        TaleHouse make();
    }

    private interface Asker {
        void ask(TaleHouse x, List<Long> answers);
    }

    private static final Asker[] ASKERS = {
        RefusedTest::askSettings, RefusedTest::askTape, RefusedTest::askFacts, RefusedTest::askDays,
        RefusedTest::askStocks, RefusedTest::askPrices,
    };

    private final Map<String, Call> calls = new LinkedHashMap<>();
    private final Map<String, Long> dues = new LinkedHashMap<>();

    public static void main(String[] args) {
        settingCalls().compare(RefusedTest::used, RefusedTest::used);
        factCalls().compare(RefusedTest::used, RefusedTest::used);
        dayCalls().compare(RefusedTest::used, RefusedTest::used);
        printingCalls().compare(RefusedTest::used, RefusedTest::used);
        fullCalls().compare(RefusedTest::full, RefusedTest::full);
        fullTape();
        textCalls().compare(RefusedTest::usedWithText, RefusedTest::used);
        fullTextCalls().compare(RefusedTest::fullWithText, RefusedTest::full);
        Due.finish();
    }

    private void add(long due, String name, Call call) {
        calls.put(name, call);
        dues.put(name, due);
    }

    private void compare(Maker maker, Maker twins) {
        for (Asker asker : ASKERS) {
            List<Long> due = new ArrayList<>();
            asker.ask(twins.make(), due);
            for (String name : calls.keySet()) {
                Due.of("a refused " + name + " leaves all as it was");
                TaleHouse x = maker.make();
                Due.is(name, calls.get(name).on(x), dues.get(name));
                List<Long> answers = new ArrayList<>();
                asker.ask(x, answers);
                for (int i = 0; i < due.size(); i++) {
                    Due.is("question " + i, answers.get(i), due.get(i));
                }
            }
        }
    }

    // ---- the calls that are refused

    private static long number(boolean answer) {
        return answer ? 1 : 0;
    }

    private static RefusedTest settingCalls() {
        RefusedTest t = new RefusedTest();
        for (int n : new int[] {Due.MIN, -1, 11, 200, Due.MAX}) {
            t.add(0, "end(" + n + ")", x -> number(x.end(n)));
        }
        for (int n : new int[] {Due.MIN, -2, 100001, Due.MAX}) {
            t.add(-1, "paragraph(" + n + ")", x -> x.paragraph(n));
        }
        for (int n : new int[] {Due.MIN, -1, 0, 21, Due.MAX}) {
            t.add(-1, "word(" + n + ")", x -> x.word(n));
        }
        int[][] pages = {{9, 5, 1, 1}, {61, 5, 1, 1}, {10, 4, 1, 1}, {10, 41, 1, 1}, {10, 5, -1, 1},
            {10, 5, 100001, 1}, {10, 5, 1, -1}, {10, 5, 1, 100001}};
        for (int[] p : pages) {
            String name = "page(" + p[0] + ", " + p[1] + ", " + p[2] + ", " + p[3] + ")";
            t.add(0, name, x -> number(x.page(p[0], p[1], p[2], p[3])));
        }
        for (int n : new int[] {Due.MIN, -1, 0, 121, Due.MAX}) {
            t.add(-1, "fill(" + n + ")", x -> x.fill(n));
        }
        t.add(-2, "fill(1)", x -> x.fill(1));
        t.add(-2, "fill(120)", x -> x.fill(120));
        t.add(-1, "lines(4, 1)", x -> x.lines(4, 1));
        t.add(-1, "lines(0, -1)", x -> x.lines(0, -1));
        t.add(-2, "lines(0, 0)", x -> x.lines(0, 0));
        t.add(-1, "set(4, 0)", x -> x.set(4, 0));
        t.add(-1, "line(9, 0)", x -> x.line(9, 0));
        return t;
    }

    private static RefusedTest factCalls() {
        RefusedTest t = new RefusedTest();
        int[][] strikes = {{-1, 1}, {5, 1}, {1, 2}, {0, 0}, {0, 1}, {2, 1}, {2, 0}, {2, 3}, {3, 2}, {Due.MAX, 1}, {2, Due.MAX}};
        for (int[] s : strikes) {
            t.add(0, "strike(" + s[0] + ", " + s[1] + ")", x -> number(x.strike(s[0], s[1])));
        }
        for (int n : new int[] {Due.MIN, -1, 4, Due.MAX}) {
            t.add(-1, "quarrels(" + n + ")", x -> x.quarrels(n));
        }
        for (int n : new int[] {Due.MIN, -1, 3, 24, Due.MAX}) {
            t.add(-1, "mend(" + n + ")", x -> x.mend(n));
        }
        t.add(-1, "quarrel(0, 5)", x -> x.quarrel(0, 5));
        t.add(-1, "found(9, 0)", x -> x.found(9, 0));
        t.add(-1, "fault(2)", x -> x.fault(2));
        return t;
    }

    private static RefusedTest dayCalls() {
        RefusedTest t = new RefusedTest();
        for (int n : new int[] {Due.MIN, -1, 0, 100, 20000, 20001, Due.MAX}) {
            t.add(0, "start(" + n + ")", x -> number(x.start(n)));
        }
        int[][] days = {{0, 300}, {3, 300}, {4, 199}, {4, 30001}, {4, -1}, {5, 300}, {24, 300}, {-1, 300},
            {Due.MAX, 300}, {4, Due.MAX}, {4, Due.MIN}};
        for (int[] d : days) {
            t.add(-1, "came(" + d[0] + ", " + d[1] + ")", x -> x.came(d[0], d[1]));
        }
        for (int n : new int[] {Due.MIN, -1, 24, Due.MAX}) {
            t.add(-1, "agreed(" + n + ")", x -> x.agreed(n));
            t.add(-1, "share(" + n + ")", x -> x.share(n));
            t.add(-1, "due(" + n + ")", x -> x.due(n));
        }
        return t;
    }

    private static RefusedTest printingCalls() {
        RefusedTest t = new RefusedTest();
        int[][] prices = {{-1, 1, 1, 1}, {10001, 1, 1, 1}, {1, -1, 1, 0}, {1, 10001, 1, 0}, {1, 1, -1, 0},
            {1, 1, 10001, 0}, {1, 1, 1, -1}, {1, 1, 1, 2}};
        for (int[] p : prices) {
            String name = "prices(" + p[0] + ", " + p[1] + ", " + p[2] + ", " + p[3] + ")";
            t.add(0, name, x -> number(x.prices(p[0], p[1], p[2], p[3])));
        }
        int[][] none = {{-1, 0}, {24, 0}, {0, -1}, {0, 1}, {1, 3}, {Due.MAX, 0}, {0, Due.MIN}};
        for (int[] e : none) {
            String which = "(" + e[0] + ", " + e[1] + ", ..)";
            t.add(0, "keep" + which, x -> number(x.keep(e[0], e[1], true)));
            t.add(-1, "print" + which, x -> x.print(e[0], e[1], 5));
            t.add(-1, "sell" + which, x -> x.sell(e[0], e[1], 1));
            t.add(-1, "pulp" + which, x -> x.pulp(e[0], e[1]));
            t.add(-1, "best" + which, x -> x.best(e[0], e[1]));
        }
        t.add(0, "keep(1, 2, true)", x -> number(x.keep(1, 2, true)));
        t.add(-1, "print(4, 0, 5)", x -> x.print(4, 0, 5));
        for (int n : new int[] {Due.MIN, -1, 0, 100001, Due.MAX}) {
            t.add(-1, "print(0, 0, " + n + ")", x -> x.print(0, 0, n));
            t.add(-1, "sell(0, 0, " + n + ")", x -> x.sell(0, 0, n));
        }
        int[][] volumes = {{-1, 1, 0, 1, -1}, {0, 24, 0, 1, -1}, {2, 1, 0, 1, -1}, {0, 2, 1, 1, -1}, {0, 2, 0, 0, -1},
            {0, 2, 0, -1, -1}, {0, 2, 0, 21, -2}, {0, 3, 0, 1, -2}, {0, 2, 0, Due.MAX, -2}, {1, 1, 2, 1, -2}};
        for (int[] v : volumes) {
            String name = "volume(" + v[0] + ", " + v[1] + ", " + v[2] + ", " + v[3] + ")";
            t.add(v[4], name, x -> x.volume(v[0], v[1], v[2], v[3]));
        }
        int[][] rows = {{-2, 1}, {100001, 1}, {5, 0}, {5, 100}, {5, -1}, {Due.MIN, 1}, {5, Due.MAX}};
        for (int[] r : rows) {
            t.add(-1, "foretell(" + r[0] + ", " + r[1] + ")", x -> x.foretell(r[0], r[1]));
        }
        return t;
    }

    /** Calls that are refused as there is no room. */
    private static RefusedTest fullCalls() {
        RefusedTest t = new RefusedTest();
        t.add(-1, "paragraph(1) behind 20", x -> x.paragraph(1));
        t.add(-1, "word(1) behind 30", x -> x.word(1));
        t.add(-1, "mend(3) behind 3", x -> x.mend(3));
        t.add(-1, "foretell(9, 9) behind 8", x -> x.foretell(9, 9));
        return t;
    }

    private static void fullTape() {
        Due.of("a refused feed leaves all as it was");
        for (int size = 181; size <= 200; size++) {
            List<Long> due = new ArrayList<>();
            List<Long> answers = new ArrayList<>();
            TaleHouse twin = withTape(size);
            TaleHouse x = withTape(size);
            Due.is("feed behind " + size, x.feed(0x61616161, BLANKS, BLANKS, BLANKS, BLANKS), -1);
            for (int n = 200; n >= 150; n -= 5) {
                due.add(number(twin.end(n)));
                answers.add(number(x.end(n)));
            }
            askTape(twin, due);
            askTape(x, answers);
            for (int i = 0; i < due.size(); i++) {
                Due.is("question " + i, answers.get(i), due.get(i));
            }
        }
    }

    private static TaleHouse withTape(int size) {
        TaleHouse x = used();
        for (int i = 0; i < 9; i++) {
            x.feed(BLANKS, BLANKS, BLANKS, BLANKS, BLANKS);
        }
        x.end(180);
        Due.is("feed behind 180", x.feed(BLANKS, BLANKS, BLANKS, BLANKS, BLANKS), 200);
        x.end(size);
        return x;
    }

    /** Texts that are refused: the tape goes, so they come behind one that both houses have lost. */
    private static RefusedTest textCalls() {
        RefusedTest t = new RefusedTest();
        for (int n : FAR) {
            t.add(-2, "fact(" + n + ", 0)", x -> refusedFact(x, "eva born 77;", n, 0));
            t.add(-2, "fact(0, " + n + ")", x -> refusedFact(x, "eva born 77;", 0, n));
            t.add(-2, "agree(" + n + ")", x -> refusedAgreement(x, "77 percent late 7;", n));
        }
        t.add(-2, "fact(24, 0)", x -> refusedFact(x, "eva born 77;", 24, 0));
        t.add(-2, "fact(0, 1)", x -> refusedFact(x, "eva born 77;", 0, 1));
        t.add(-1, "fact with a fault", x -> refusedFact(x, "eva in rome on 77", 0, 0));
        t.add(-2, "agree(24)", x -> refusedAgreement(x, "77 percent late 7;", 24));
        t.add(-1, "agree with fault 1", x -> refusedAgreement(x, "77 percent to 78, 79 percent late 7", 0));
        t.add(-1, "agree with fault 2", x -> refusedAgreement(x, "77 percent to 78, 79 percent late 10000;", 0));
        return t;
    }

    private static RefusedTest fullTextCalls() {
        RefusedTest t = new RefusedTest();
        t.add(-2, "fact behind 60", x -> refusedFact(x, "eva born 77;", 0, 0));
        t.add(-1, "fact with a fault behind 60", x -> refusedFact(x, "eva born 77", 0, 0));
        t.add(-2, "agree behind 12", x -> refusedAgreement(x, "77 percent late 7;", 0));
        t.add(-1, "agree with a fault behind 12", x -> refusedAgreement(x, "77 percent late 7", 0));
        return t;
    }

    private static long refusedFact(TaleHouse x, String text, int part, int edition) {
        long answer = Due.tell(x, text, part, edition);
        layTape(x);
        return answer;
    }

    private static long refusedAgreement(TaleHouse x, String text, int part) {
        long answer = Due.agree(x, text, part);
        layTape(x);
        return answer;
    }

    // ---- the houses

    private static TaleHouse used() {
        TaleHouse x = usedWithText();
        layTape(x);
        return x;
    }

    private static void layTape(TaleHouse x) {
        Due.is("the tape is empty", number(x.end(1)), 0);
        Due.type(x, "eva born 4");
    }

    /** A house in the midst of its work, with an empty tape. */
    private static TaleHouse usedWithText() {
        TaleHouse x = new TaleHouse();
        x.page(12, 6, 30, 70);
        int[][] words = {{3, 4, 5, 2, 6, 7}, {4, 4}, {}, {7, 2, 9}};
        int[] cuts = {-1, 90, 0, -1};
        for (int p = 0; p < cuts.length; p++) {
            x.paragraph(cuts[p]);
            for (int length : words[p]) {
                x.word(length);
            }
        }
        x.fill(9);
        int[] mended = {1, 1, 2, 3, 3, 3};
        for (int part : mended) {
            x.mend(part);
        }
        Due.tell(x, "eva born 10;", 0, 0);
        Due.tell(x, "eva born 11;", 1, 0);
        Due.tell(x, "eva dead 9;", 1, 1);
        Due.tell(x, "tom in rome on 5;", 2, 0);
        Due.tell(x, "tom in bath on 5;", 2, 1);
        x.strike(1, 1);
        x.quarrels(1);
        Due.agree(x, "10 percent to 5, 20 percent late 3;", 0);
        Due.agree(x, "7 percent late 2;", 1);
        x.start(100);
        int[] days = {105, 150, 200, 200};
        for (int part = 0; part < days.length; part++) {
            x.came(part, days[part]);
        }
        workShelf(x);
        return x;
    }

    private static void workShelf(TaleHouse x) {
        x.prices(9, 4, 50, 3);
        x.print(0, 0, 40);
        x.keep(0, 0, true);
        x.print(1, 0, 30);
        x.print(1, 1, 20);
        x.print(2, 0, 25);
        x.sell(0, 0, 12);
        x.sell(1, 1, 4);
        x.pulp(1, 0);
        x.print(1, 0, 10);
        x.volume(0, 2, 0, 5);
        x.foretell(10, 3);
        x.foretell(30, 2);
    }

    private static TaleHouse full() {
        TaleHouse x = fullWithText();
        layTape(x);
        return x;
    }

    /** A house with no room for more, with an empty tape. */
    private static TaleHouse fullWithText() {
        TaleHouse x = new TaleHouse();
        for (int p = 0; p < 20; p++) {
            x.paragraph(p);
        }
        for (int w = 0; w < 30; w++) {
            x.word(2 + w % 9);
        }
        x.fill(9);
        for (int edition = 1; edition <= 3; edition++) {
            x.mend(3);
        }
        for (int i = 0; i < 60; i++) {
            Due.is("fact " + i, Due.tell(x, "eva in rome on 1000;", 3, i % 4), i);
        }
        for (int i = 0; i < 12; i++) {
            Due.is("agreement " + i, Due.agree(x, "12 percent late 100;", i), i);
        }
        for (int row = 0; row < 8; row++) {
            x.foretell(10 * row, 1 + row);
        }
        return x;
    }

    // ---- what is asked

    private static void askSettings(TaleHouse x, List<Long> answers) {
        askPlaces(x, answers);
        for (int p = 0; p < 5; p++) {
            for (int n = 0; n < 7; n++) {
                answers.add((long) x.lines(p, n));
            }
        }
        for (int lines = 8; lines <= 14; lines++) {
            answers.add((long) x.fill(lines));
        }
        askPlaces(x, answers);
        answers.add((long) x.word(3));
        answers.add((long) x.paragraph(5));
        answers.add((long) x.clear());
    }

    private static void askPlaces(TaleHouse x, List<Long> answers) {
        for (int p = 0; p < 5; p++) {
            for (int what = 0; what < 4; what++) {
                answers.add((long) x.set(p, what));
            }
        }
        for (int i = 0; i < 11; i++) {
            for (int what = 0; what < 3; what++) {
                answers.add((long) x.line(i, what));
            }
        }
    }

    /** The tape has a fact that lacks its sign. */
    private static void askTape(TaleHouse x, List<Long> answers) {
        answers.add((long) x.feed(0x203b2020, BLANKS, BLANKS, BLANKS, BLANKS));
        answers.add((long) x.fact(0, 0));
        answers.add((long) x.fault(0));
        answers.add((long) x.fault(1));
        for (int a = 0; a < 6; a++) {
            answers.add((long) x.quarrel(a, 5));
        }
    }

    private static void askFacts(TaleHouse x, List<Long> answers) {
        askFound(x, answers);
        for (int a = 0; a < 6; a++) {
            for (int b = 0; b < 6; b++) {
                answers.add((long) x.quarrel(a, b));
            }
        }
        for (int e = 0; e < 4; e++) {
            answers.add((long) x.quarrels(e));
            askFound(x, answers);
        }
        answers.add(number(x.strike(2, 2)));
        answers.add(number(x.strike(3, 1)));
        answers.add((long) x.quarrels(3));
        for (int part = 0; part < 24; part++) {
            answers.add((long) x.mend(part));
        }
    }

    private static void askFound(TaleHouse x, List<Long> answers) {
        for (int k = 0; k < 4; k++) {
            answers.add((long) x.found(k, 0));
            answers.add((long) x.found(k, 1));
        }
    }

    private static void askDays(TaleHouse x, List<Long> answers) {
        for (int part = 0; part < 24; part++) {
            answers.add((long) x.agreed(part));
            answers.add(x.share(part));
            answers.add((long) x.due(part));
        }
        answers.add((long) x.came(4, 400));
        answers.add((long) x.due(5));
        answers.add(number(x.end(0)));
        answers.add((long) Due.agree(x, "1 percent late 0;", 2));
        answers.add((long) x.agreed(2));
        answers.add(x.share(2));
    }

    private static void askStocks(TaleHouse x, List<Long> answers) {
        for (int part = 0; part < 4; part++) {
            for (int edition = 0; edition < 4; edition++) {
                for (int what = 0; what < 6; what++) {
                    answers.add((long) x.stock(part, edition, what));
                }
            }
        }
        answers.add(x.purse());
    }

    private static void askPrices(TaleHouse x, List<Long> answers) {
        for (int part = 0; part < 4; part++) {
            for (int edition = 0; edition < 2; edition++) {
                answers.add((long) x.best(part, edition));
                answers.add(x.worth(part, edition, 20));
            }
        }
        answers.add((long) x.print(0, 0, 7));
        answers.add((long) x.print(2, 0, 7));
        answers.add((long) x.sell(0, 0, 1));
        answers.add((long) x.pulp(0, 0));
        answers.add(x.purse());
        answers.add((long) x.volume(1, 2, 0, 1));
        answers.add((long) x.foretell(50, 1));
        answers.add((long) x.best(0, 0));
    }
}
