/** Promises 25 to 35: prices, keep, print, sell, pulp, stock, volume, foretell, best, worth, purse. */
public final class PrintingTest {
    private static final int MIN = Due.MIN;
    private static final int MAX = Due.MAX;
    private static final long NO_WORTH = -9000000000000000000L;

    public static void main(String[] args) {
        prices();
        keep();
        print();
        sell();
        pulp();
        stock();
        volume();
        foretell();
        best();
        worth();
        worthAtEdges();
        purse();
        Due.finish();
    }

    private static TaleHouse withPart(int parts) {
        TaleHouse x = new TaleHouse();
        for (int p = 0; p < parts; p++) {
            x.came(p, 0);
        }
        return x;
    }

    private static void prices() {
        TaleHouse x = withPart(1);
        int[][] bad = {
            {-1, 0, 0, 0}, {10001, 0, 0, 0}, {0, -1, 0, 0}, {0, 10001, 0, 0}, {0, 0, -1, 0}, {0, 0, 10001, 0},
            {0, 0, 0, -1}, {0, 0, 0, 1}, {9, 5, 9, 6}, {MIN, 0, 0, 0}, {0, MAX, 0, MAX}, {0, 0, MAX, 0}, {9, 9, 9, MIN},
        };
        for (int[] p : bad) {
            Due.no("prices " + java.util.Arrays.toString(p), x.prices(p[0], p[1], p[2], p[3]));
        }
        Due.is("PAPER 2, PLATES 500 at first", x.print(0, 0, 100), 700);
        Due.is("sell", x.sell(0, 0, 3), 97);
        Due.is("PRICE 10 at first", x.purse(), -670);
        Due.is("pulp", x.pulp(0, 0), 97);
        Due.is("PULP 0 at first", x.purse(), -670);
        Due.yes("prices(0, 0, 0, 0)", x.prices(0, 0, 0, 0));
        Due.is("print for nothing", x.print(0, 0, 100), 0);
        Due.yes("prices(10000, 10000, 10000, 10000)", x.prices(10000, 10000, 10000, 10000));
        Due.is("print at the most", x.print(0, 0, 100000), 1000010000);
        Due.yes("prices(9, 5, 9, 5)", x.prices(9, 5, 9, 5));
    }

    private static void keep() {
        TaleHouse x = withPart(2);
        x.mend(0);
        Due.no("keep of nothing printed", x.keep(0, 0, true));
        Due.no("not kept of nothing printed", x.keep(0, 0, false));
        x.print(0, 0, 1);
        Due.yes("keep(0, 0, true)", x.keep(0, 0, true));
        Due.no("keep(0, 1, true)", x.keep(0, 1, true));
        Due.no("keep(0, 2, true)", x.keep(0, 2, true));
        Due.no("keep(0, -1, true)", x.keep(0, -1, true));
        Due.no("keep(1, 0, true)", x.keep(1, 0, true));
        Due.no("keep(24, 0, true)", x.keep(24, 0, true));
        Due.no("keep(-1, 0, true)", x.keep(-1, 0, true));
        Due.is("stock(0, 0, 5)", x.stock(0, 0, 5), 1);
        Due.is("print with plates kept", x.print(0, 0, 10), 20);
        Due.is("print of another edition", x.print(0, 1, 10), 520);
        Due.yes("keep(0, 0, false)", x.keep(0, 0, false));
        Due.is("stock(0, 0, 5)", x.stock(0, 0, 5), 0);
        Due.is("print with plates not kept", x.print(0, 0, 10), 520);
        x.pulp(0, 0);
        Due.yes("keep of what was pulped", x.keep(0, 0, true));
    }

    private static void print() {
        TaleHouse x = withPart(2);
        Due.is("print(2, 0, 5): it has not come", x.print(2, 0, 5), -1);
        Due.is("print(24, 0, 5)", x.print(24, 0, 5), -1);
        Due.is("print(-1, 0, 5)", x.print(-1, 0, 5), -1);
        Due.is("print(0, 1, 5)", x.print(0, 1, 5), -1);
        Due.is("print(0, -1, 5)", x.print(0, -1, 5), -1);
        Due.is("print(0, 0, 0)", x.print(0, 0, 0), -1);
        Due.is("print(0, 0, -5)", x.print(0, 0, -5), -1);
        Due.is("print(0, 0, 100001)", x.print(0, 0, 100001), -1);
        Due.is("print(0, 0, most)", x.print(0, 0, MAX), -1);
        Due.is("stock(0, 0, 0)", x.stock(0, 0, 0), 0);
        Due.is("purse()", x.purse(), 0);
        Due.is("print(0, 0, 1)", x.print(0, 0, 1), 502);
        Due.is("print(1, 0, 100000)", x.print(1, 0, 100000), 200500);
        Due.is("print(0, 0, 9)", x.print(0, 0, 9), 518);
        Due.is("stock(0, 0, 0)", x.stock(0, 0, 0), 10);
        x.mend(2);
        Due.is("print(2, 1, 5)", x.print(2, 1, 5), -1);
    }

    private static void sell() {
        TaleHouse x = withPart(1);
        Due.is("sell of none", x.sell(0, 0, 1), -1);
        x.print(0, 0, 10);
        Due.is("sell(0, 0, 0)", x.sell(0, 0, 0), -1);
        Due.is("sell(0, 0, -1)", x.sell(0, 0, -1), -1);
        Due.is("sell(0, 0, least)", x.sell(0, 0, MIN), -1);
        Due.is("sell(0, 0, 11)", x.sell(0, 0, 11), -1);
        Due.is("sell(0, 1, 1)", x.sell(0, 1, 1), -1);
        Due.is("sell(24, 0, 1)", x.sell(24, 0, 1), -1);
        Due.is("sell(-1, 0, 1)", x.sell(-1, 0, 1), -1);
        Due.is("sell(0, 0, 4)", x.sell(0, 0, 4), 6);
        Due.is("sell(0, 0, 7)", x.sell(0, 0, 7), -1);
        Due.is("sell(0, 0, 6)", x.sell(0, 0, 6), 0);
        Due.is("sell(0, 0, 1)", x.sell(0, 0, 1), -1);
        Due.is("stock(0, 0, 1)", x.stock(0, 0, 1), 10);
    }

    private static void pulp() {
        TaleHouse x = withPart(1);
        x.prices(10, 2, 500, 1);
        Due.is("pulp(0, 0) of none", x.pulp(0, 0), 0);
        Due.is("pulp(0, 1)", x.pulp(0, 1), -1);
        Due.is("pulp(24, 0)", x.pulp(24, 0), -1);
        Due.is("pulp(-1, 0)", x.pulp(-1, 0), -1);
        Due.is("pulp(0, least)", x.pulp(0, MIN), -1);
        Due.is("pulp(23, 0)", x.pulp(23, 0), 0);
        x.print(0, 0, 10);
        x.sell(0, 0, 3);
        Due.is("pulp(0, 0)", x.pulp(0, 0), 7);
        Due.is("pulp(0, 0)", x.pulp(0, 0), 0);
        Due.is("purse()", x.purse(), 30 + 7 - 520);
        Due.is("stock(0, 0, 2)", x.stock(0, 0, 2), 7);
        Due.is("stock(0, 0, 4)", x.stock(0, 0, 4), 0);
    }

    private static void stock() {
        TaleHouse x = withPart(3);
        x.mend(2);
        x.print(2, 1, 100);
        x.sell(2, 1, 20);
        x.volume(2, 2, 1, 30);
        int[] due = {100, 20, 0, 30, 50, 0, -1};
        for (int what = 0; what < due.length; what++) {
            Due.is("stock(2, 1, " + what + ")", x.stock(2, 1, what), due[what]);
            Due.is("stock(2, 0, " + what + ")", x.stock(2, 0, what), what == 6 ? -1 : 0);
        }
        x.pulp(2, 1);
        x.print(2, 1, 5);
        Due.is("stock(2, 1, 2)", x.stock(2, 1, 2), 50);
        Due.is("stock(2, 1, 4)", x.stock(2, 1, 4), 5);
        Due.is("stock(2, 1, -1)", x.stock(2, 1, -1), -1);
        Due.is("stock(2, 2, 0)", x.stock(2, 2, 0), -1);
        Due.is("stock(24, 0, 0)", x.stock(24, 0, 0), -1);
        Due.is("stock(-1, 0, 0)", x.stock(-1, 0, 0), -1);
        Due.is("stock(0, -1, 0)", x.stock(0, -1, 0), -1);
        Due.is("stock(3, 0, 0)", x.stock(3, 0, 0), 0);
    }

    private static void volume() {
        TaleHouse x = withPart(4);
        for (int p = 0; p < 4; p++) {
            x.print(p, 0, 10 + p);
        }
        Due.is("volume(0, 3, 0, 0)", x.volume(0, 3, 0, 0), -1);
        Due.is("volume(0, 3, 0, -1)", x.volume(0, 3, 0, -1), -1);
        Due.is("volume(0, 3, 1, 1)", x.volume(0, 3, 1, 1), -1);
        Due.is("volume(0, 3, -1, 1)", x.volume(0, 3, -1, 1), -1);
        Due.is("volume(3, 0, 0, 1)", x.volume(3, 0, 0, 1), -1);
        Due.is("volume(-1, 3, 0, 1)", x.volume(-1, 3, 0, 1), -1);
        Due.is("volume(0, 24, 0, 1)", x.volume(0, 24, 0, 1), -1);
        Due.is("volume(least, most, 0, 1)", x.volume(MIN, MAX, 0, 1), -1);
        Due.is("volume(0, 23, 0, 1)", x.volume(0, 23, 0, 1), -2);
        Due.is("volume(0, 3, 0, 11)", x.volume(0, 3, 0, 11), -2);
        Due.is("volume(0, 3, 0, most)", x.volume(0, 3, 0, MAX), -2);
        Due.is("stock(3, 0, 3): nothing was done", x.stock(3, 0, 3), 0);
        long purse = x.purse();
        Due.is("volume(1, 3, 0, 4)", x.volume(1, 3, 0, 4), 7);
        Due.is("volume(0, 3, 0, 2)", x.volume(0, 3, 0, 2), 5);
        Due.is("volume(2, 2, 0, 6)", x.volume(2, 2, 0, 6), 0);
        Due.is("stock(0, 0, 3)", x.stock(0, 0, 3), 2);
        Due.is("stock(1, 0, 3)", x.stock(1, 0, 3), 6);
        Due.is("stock(2, 0, 3)", x.stock(2, 0, 3), 12);
        Due.is("stock(3, 0, 4)", x.stock(3, 0, 4), 7);
        Due.is("sell(2, 0, 1)", x.sell(2, 0, 1), -1);
        Due.is("purse() has no volumes", x.purse(), purse);
        x.mend(1);
        Due.is("volume(1, 2, 1, 1): the last has it not", x.volume(1, 2, 1, 1), -1);
        Due.is("volume(0, 1, 1, 1): the first has it not", x.volume(0, 1, 1, 1), -1);
        x.mend(3);
        Due.is("volume(1, 3, 1, 1): one has it not", x.volume(1, 3, 1, 1), -1);
        x.mend(2);
        Due.is("volume(1, 3, 1, 1): none left", x.volume(1, 3, 1, 1), -2);
        for (int p = 1; p < 4; p++) {
            x.print(p, 1, 1);
        }
        Due.is("volume(1, 3, 1, 1)", x.volume(1, 3, 1, 1), 0);
    }

    private static void foretell() {
        TaleHouse x = new TaleHouse();
        Due.is("foretell(-2, 1)", x.foretell(-2, 1), -1);
        Due.is("foretell(100001, 1)", x.foretell(100001, 1), -1);
        Due.is("foretell(5, 0)", x.foretell(5, 0), -1);
        Due.is("foretell(5, 100)", x.foretell(5, 100), -1);
        Due.is("foretell(least, most)", x.foretell(MIN, MAX), -1);
        Due.is("best(0, 0)", x.best(0, 0), -1);
        Due.is("foretell(0, 1)", x.foretell(0, 1), 1);
        Due.is("foretell(100000, 99)", x.foretell(100000, 99), 2);
        for (int i = 3; i <= 8; i++) {
            Due.is("foretell(5, 1)", x.foretell(5, 1), i);
        }
        Due.is("a ninth row", x.foretell(5, 1), -1);
        Due.is("foretell(-1, 1)", x.foretell(-1, 1), 0);
        Due.is("best(0, 0)", x.best(0, 0), -1);
        Due.is("foretell(-1, -7)", x.foretell(-1, -7), 0);
        Due.is("foretell(5, 1)", x.foretell(5, 1), 1);
    }

    private static void best() {
        TaleHouse x = withPart(1);
        x.foretell(50, 1);
        Due.is("best(0, 0): plates are too dear", x.best(0, 0), 0);
        x.print(0, 0, 1);
        x.keep(0, 0, true);
        Due.is("best(0, 0): plates are kept", x.best(0, 0), 50);
        Due.is("best(1, 0)", x.best(1, 0), 0);
        Due.is("best(0, 1)", x.best(0, 1), -1);
        Due.is("best(24, 0)", x.best(24, 0), -1);
        Due.is("best(-1, 0)", x.best(-1, 0), -1);
        Due.is("best(0, -1)", x.best(0, -1), -1);
        // as many lots sell 100 more as not: alike at twice the paper
        x.foretell(-1, 0);
        x.foretell(200, 1);
        x.foretell(100, 1);
        x.prices(10, 5, 0, 0);
        Due.is("best(0, 0): of several the fewest", x.best(0, 0), 100);
        x.prices(10, 4, 0, 0);
        Due.is("best(0, 0)", x.best(0, 0), 200);
        x.prices(10, 6, 0, 0);
        Due.is("best(0, 0)", x.best(0, 0), 100);
        x.prices(10, 10, 0, 0);
        Due.is("best(0, 0): worth nothing", x.best(0, 0), 0);
        x.foretell(-1, 0);
        x.foretell(0, 3);
        Due.is("best(0, 0) of no sale", x.best(0, 0), 0);
    }

    private static void worth() {
        TaleHouse x = withPart(1);
        Due.is("worth(0, 0, 5) without", x.worth(0, 0, 5), NO_WORTH);
        x.foretell(10, 3);
        x.foretell(30, 2);
        x.prices(10, 4, 100, 1);
        Due.is("worth(0, 0, 0)", x.worth(0, 0, 0), 0);
        Due.is("worth(0, 0, 20)", x.worth(0, 0, 20), 3 * (100 + 10) + 2 * 200 - 5 * 180);
        x.print(0, 0, 1);
        x.keep(0, 0, true);
        Due.is("worth(0, 0, 20) with plates", x.worth(0, 0, 20), 3 * (100 + 10) + 2 * 200 - 5 * 80);
        Due.is("worth(0, 0, 100)", x.worth(0, 0, 100), 3 * (100 + 90) + 2 * (300 + 70) - 5 * 400);
        Due.is("worth(0, 0, -1)", x.worth(0, 0, -1), NO_WORTH);
        Due.is("worth(0, 0, 100001)", x.worth(0, 0, 100001), NO_WORTH);
        Due.is("worth(0, 1, 5)", x.worth(0, 1, 5), NO_WORTH);
        Due.is("worth(24, 0, 5)", x.worth(24, 0, 5), NO_WORTH);
        Due.is("worth(-1, 0, 5)", x.worth(-1, 0, 5), NO_WORTH);
        Due.is("worth(23, 0, 1)", x.worth(23, 0, 1), 5 * 10 - 5 * 104);
    }

    private static void worthAtEdges() {
        TaleHouse x = new TaleHouse();
        for (int i = 0; i < 8; i++) {
            x.foretell(100000, 99);
        }
        x.prices(10000, 0, 0, 0);
        Due.is("worth at the most", x.worth(0, 0, 100000), 792000000000L);
        x.foretell(-1, 0);
        for (int i = 0; i < 8; i++) {
            x.foretell(0, 99);
        }
        x.prices(10000, 10000, 10000, 0);
        Due.is("worth at the least", x.worth(0, 0, 100000), -792L * 1000010000);
    }

    private static void purse() {
        TaleHouse x = withPart(1);
        x.prices(7, 3, 11, 2);
        x.print(0, 0, 100);
        Due.is("purse() of printing", x.purse(), -311);
        x.sell(0, 0, 40);
        Due.is("purse() of copies sold", x.purse(), -31);
        x.prices(8, 3, 11, 1);
        x.sell(0, 0, 10);
        Due.is("purse() at a new price", x.purse(), 49);
        x.sell(0, 0, 51);
        x.print(0, 0, 0);
        Due.is("purse() of what was refused", x.purse(), 49);
        x.pulp(0, 0);
        Due.is("purse() of copies pulped", x.purse(), 99);
        x.prices(0, 10000, 10000, 0);
        for (int i = 0; i < 3; i++) {
            x.print(0, 0, 100000);
        }
        Due.is("purse() beyond an int", x.purse(), 99 - 3L * 1000010000);
    }
}
