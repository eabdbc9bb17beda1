/** Each sentence that names a boundary case in the printings of terms IV, and in promises 25 to 35. */
public final class PrintingBoundsTest {
    private static final long NO_WORTH = -9000000000000000000L;

    public static void main(String[] args) {
        termsOfPrinting();
        termsOfForetelling();
        promisesOfPrinting();
        promisesOfStocks();
        promisesOfForetelling();
        purseOfLongRuns();
        Due.finish();
    }

    private static void termsOfPrinting() {
        copiesFrom1To100000();
        platesUnlessKept();
        pricesFrom0To10000();
        pricesAtFirst();
        pulpFrom0ToPaper();
    }

    private static void termsOfForetelling() {
        upTo8Rows();
        saleFrom0To100000();
        lotsFrom1To99();
        lesserOfCopiesAndSale();
        nothingOf0Copies();
        worthBeyondAnInt();
    }

    private static void promisesOfPrinting() {
        pricesFromNowOn();
        pricesFalse();
        keepFromNowOn();
        keepNoneSuch();
        keepOfNothingPrinted();
        printNoSuchEdition();
        printHasNotCome();
        printCopiesCantBe();
    }

    private static void promisesOfStocks() {
        sellOneAtLeast();
        sellNotSoMany();
        pulpAllThatIsLeft();
        pulpNoneSuch();
        stockNone();
        stocksAgree();
        volumesOneAtLeast();
        volumePartsCantBe();
        volumeAllOfOneEdition();
        volumeNotSoManyLeft();
        volumesMore();
    }

    private static void promisesOfForetelling() {
        foretellAllRowsGo();
        foretellNone();
        bestOf0AndAllSales();
        bestOfSeveralTheFewest();
        bestAsPlatesAreKept();
        bestNone();
        worthOf0To100000Copies();
        worthNoneSuch();
    }

    private static TaleHouse withParts(int parts) {
        TaleHouse x = new TaleHouse();
        for (int part = 0; part < parts; part++) {
            x.came(part, 0);
        }
        return x;
    }

    // ---- terms IV: printing

    private static void copiesFrom1To100000() {
        Due.of("IV: PRINTING c copies (1 .. 100000) of an EDITION costs PAPER for each, and PLATES");
        TaleHouse x = withParts(1);
        Due.each("print(0, 0, copies)", c -> x.print(0, 0, c), -1, 0, -1, 100001, Due.MIN, Due.MAX);
        Due.is("stock(0, 0, 0)", x.stock(0, 0, 0), 0);
        Due.is("print(0, 0, 1)", x.print(0, 0, 1), 502);
        Due.is("print(0, 0, 100000)", x.print(0, 0, 100000), 200500);
        Due.is("stock(0, 0, 0)", x.stock(0, 0, 0), 100001);
    }

    private static void platesUnlessKept() {
        Due.of("IV: and PLATES, unless these are kept of it");
        TaleHouse x = withParts(2);
        x.mend(0);
        x.print(0, 0, 1);
        x.keep(0, 0, true);
        Due.is("print(0, 0, 1)", x.print(0, 0, 1), 2);
        Due.is("print(0, 1, 1)", x.print(0, 1, 1), 502);
        Due.is("print(1, 0, 1)", x.print(1, 0, 1), 502);
        Due.is("print(0, 0, 1): kept again and again", x.print(0, 0, 1), 2);
    }

    private static void pricesFrom0To10000() {
        Due.of("IV: PRICE, PAPER, PLATES (0 .. 10000)");
        TaleHouse x = withParts(1);
        int[] bad = {-1, 10001, Due.MIN, Due.MAX};
        Due.each("prices(price, ..)", p -> x.prices(p, 5, 5, 5) ? 1 : 0, 0, bad);
        Due.each("prices(.., paper, ..)", p -> x.prices(5, p, 5, 0) ? 1 : 0, 0, bad);
        Due.each("prices(.., plates, ..)", p -> x.prices(5, 5, p, 5) ? 1 : 0, 0, bad);
        Due.is("print(0, 0, 1) as at first", x.print(0, 0, 1), 502);
        Due.yes("the least", x.prices(0, 0, 0, 0));
        Due.is("print(0, 0, 100000) for nothing", x.print(0, 0, 100000), 0);
        Due.yes("the most", x.prices(10000, 10000, 10000, 10000));
        Due.is("print(0, 0, 100000) at the most", x.print(0, 0, 100000), 1000010000);
        x.sell(0, 0, 1);
        Due.is("purse()", x.purse(), -502 - 1000010000 + 10000);
    }

    private static void pricesAtFirst() {
        Due.of("IV: PRICE, PAPER, PLATES: 10, 2, 500 at first; PULP: 0 at first");
        TaleHouse x = withParts(1);
        Due.is("print(0, 0, 3)", x.print(0, 0, 3), 506);
        x.sell(0, 0, 1);
        Due.is("purse() of one sold", x.purse(), 10 - 506);
        x.pulp(0, 0);
        Due.is("purse() of two pulped", x.purse(), 10 - 506);
    }

    private static void pulpFrom0ToPaper() {
        Due.of("IV: PULP (0 .. PAPER)");
        TaleHouse x = withParts(1);
        Due.each("prices(10, 2, 0, pulp)", p -> x.prices(10, 2, 0, p) ? 1 : 0, 1, 0, 1, 2);
        Due.each("prices(10, 2, 0, pulp)", p -> x.prices(10, 2, 0, p) ? 1 : 0, 0, -1, 3, 10, Due.MIN, Due.MAX);
        x.print(0, 0, 7);
        x.pulp(0, 0);
        Due.is("purse(): pulped for all of the paper", x.purse(), 0);
        Due.no("prices(10, 0, 0, 1)", x.prices(10, 0, 0, 1));
        Due.yes("prices(10, 0, 0, 0)", x.prices(10, 0, 0, 0));
        Due.no("prices(0, 9999, 0, 10000)", x.prices(0, 9999, 0, 10000));
        Due.yes("prices(0, 10000, 0, 10000)", x.prices(0, 10000, 0, 10000));
    }

    // ---- terms IV: foretelling

    private static void upTo8Rows() {
        Due.of("IV: A FORETELLING: up to 8 rows");
        TaleHouse x = new TaleHouse();
        for (int row = 1; row <= 8; row++) {
            Due.is("row " + row, x.foretell(10 * row, 1), row);
        }
        Due.is("row 9", x.foretell(90, 1), -1);
        x.prices(10, 0, 0, 0);
        Due.is("worth(0, 0, 80): all rows count", x.worth(0, 0, 80), 3600);
        Due.is("best(0, 0): row 9 is not there", x.best(0, 0), 80);
    }

    private static void saleFrom0To100000() {
        Due.of("IV: sale (0 .. 100000)");
        TaleHouse x = new TaleHouse();
        Due.each("foretell(sale, 1)", sale -> x.foretell(sale, 1), -1, -2, 100001, Due.MIN, Due.MAX);
        Due.is("foretell(0, 1)", x.foretell(0, 1), 1);
        Due.is("foretell(100000, 1)", x.foretell(100000, 1), 2);
        x.prices(10, 0, 0, 0);
        Due.is("best(0, 0)", x.best(0, 0), 100000);
        Due.is("worth(0, 0, 100000)", x.worth(0, 0, 100000), 1000000);
    }

    private static void lotsFrom1To99() {
        Due.of("IV: lots (1 .. 99)");
        TaleHouse x = new TaleHouse();
        Due.each("foretell(5, lots)", lots -> x.foretell(5, lots), -1, 0, -1, 100, Due.MIN, Due.MAX);
        Due.is("foretell(5, 1)", x.foretell(5, 1), 1);
        Due.is("foretell(5, 99)", x.foretell(5, 99), 2);
        x.prices(10, 0, 0, 0);
        Due.is("worth(0, 0, 1) of 100 lots", x.worth(0, 0, 1), 1000);
    }

    private static void lesserOfCopiesAndSale() {
        Due.of("IV: PRICE times the lesser of c and its sale, and PULP times what is left");
        TaleHouse x = new TaleHouse();
        x.foretell(20, 1);
        x.prices(10, 3, 0, 1);
        long[][] due = {{1, 10}, {19, 190}, {20, 200}, {21, 201}, {22, 202}, {100000, 200 + 99980}};
        for (long[] d : due) {
            Due.is("worth(0, 0, " + d[0] + ")", x.worth(0, 0, (int) d[0]), d[1] - 3 * d[0]);
        }
    }

    private static void nothingOf0Copies() {
        Due.of("IV: less all lots times what printing costs (nothing of 0 copies)");
        TaleHouse x = withParts(1);
        x.foretell(0, 2);
        x.foretell(5, 3);
        Due.is("worth(0, 0, 0)", x.worth(0, 0, 0), 0);
        Due.is("worth(0, 0, 1)", x.worth(0, 0, 1), 3 * 10 - 5 * 502);
        x.print(0, 0, 1);
        x.keep(0, 0, true);
        Due.is("worth(0, 0, 0) with plates", x.worth(0, 0, 0), 0);
        Due.is("worth(0, 0, 1) with plates", x.worth(0, 0, 1), 3 * 10 - 5 * 2);
    }

    private static void worthBeyondAnInt() {
        Due.of("IV: The WORTH of c copies, times all lots, where no int holds it");
        TaleHouse x = new TaleHouse();
        for (int row = 0; row < 8; row++) {
            x.foretell(100000, 99);
        }
        x.prices(10000, 0, 0, 0);
        Due.is("the most", x.worth(0, 0, 100000), 792000000000L);
        x.foretell(-1, 1);
        for (int row = 0; row < 8; row++) {
            x.foretell(0, 99);
        }
        x.prices(10000, 10000, 10000, 0);
        Due.is("the least", x.worth(0, 0, 100000), -792L * 1000010000L);
        x.prices(10000, 10000, 0, 10000);
        Due.is("pulped for all of the paper", x.worth(0, 0, 100000), 0);
    }

    // ---- promises 25 to 27

    private static void pricesFromNowOn() {
        Due.of("25: PRICE, PAPER, PLATES, PULP from now on");
        TaleHouse x = withParts(1);
        x.print(0, 0, 100);
        x.sell(0, 0, 50);
        Due.is("purse()", x.purse(), 500 - 700);
        Due.yes("prices(1, 1, 1, 1)", x.prices(1, 1, 1, 1));
        Due.is("purse(): what was paid stays", x.purse(), 500 - 700);
        Due.is("print(0, 0, 1)", x.print(0, 0, 1), 2);
        x.sell(0, 0, 1);
        x.pulp(0, 0);
        Due.is("purse()", x.purse(), 500 - 700 - 2 + 1 + 50);
    }

    private static void pricesFalse() {
        Due.of("25: false if one can't be");
        int[][] bad = {{-1, 1, 1, 1}, {1, -1, 1, 1}, {1, 1, -1, 1}, {1, 1, 1, -1}, {1, 1, 1, 2}};
        for (int[] b : bad) {
            TaleHouse x = withParts(1);
            Due.yes("prices(7, 5, 30, 3)", x.prices(7, 5, 30, 3));
            Due.no("prices " + java.util.Arrays.toString(b), x.prices(b[0], b[1], b[2], b[3]));
            Due.is("print(0, 0, 2): PAPER, PLATES are as they were", x.print(0, 0, 2), 40);
            x.sell(0, 0, 1);
            Due.is("purse(): PRICE is as it was", x.purse(), 7 - 40);
            x.pulp(0, 0);
            Due.is("purse(): PULP is as it was", x.purse(), 7 + 3 - 40);
        }
    }

    private static void keepFromNowOn() {
        Due.of("26: PLATES of an EDITION are kept from now on (or not)");
        TaleHouse x = withParts(1);
        x.print(0, 0, 1);
        Due.is("stock(0, 0, 5)", x.stock(0, 0, 5), 0);
        for (boolean kept : new boolean[] {true, true, false, false, true}) {
            Due.yes("keep(0, 0, " + kept + ")", x.keep(0, 0, kept));
            Due.is("stock(0, 0, 5)", x.stock(0, 0, 5), kept ? 1 : 0);
            Due.is("print(0, 0, 1)", x.print(0, 0, 1), kept ? 2 : 502);
        }
    }

    private static void keepNoneSuch() {
        Due.of("26: false if there is none such");
        TaleHouse x = withParts(1);
        x.print(0, 0, 1);
        Due.each("keep(part, 0, true)", part -> x.keep(part, 0, true) ? 1 : 0, 0, -1, 24, Due.MIN, Due.MAX);
        Due.each("keep(0, edition, true)", e -> x.keep(0, e, true) ? 1 : 0, 0, -1, 1, 4, Due.MIN, Due.MAX);
        Due.is("stock(0, 0, 5)", x.stock(0, 0, 5), 0);
    }

    private static void keepOfNothingPrinted() {
        Due.of("26: false if nothing of it was printed");
        TaleHouse x = withParts(2);
        x.mend(0);
        x.print(0, 0, 1);
        x.print(1, 0, 0);
        for (boolean kept : new boolean[] {false, true}) {
            Due.no("keep(0, 1, " + kept + ")", x.keep(0, 1, kept));
            Due.no("keep(1, 0, " + kept + ")", x.keep(1, 0, kept));
        }
        Due.is("print(1, 0, 1): none are kept", x.print(1, 0, 1), 502);
        x.pulp(1, 0);
        Due.yes("keep(1, 0, true) with none left", x.keep(1, 0, true));
    }

    private static void printNoSuchEdition() {
        Due.of("27: NONE if there is no such EDITION");
        TaleHouse x = withParts(24);
        x.mend(0);
        Due.each("print(part, 0, 1)", part -> x.print(part, 0, 1), -1, -1, 24, Due.MIN, Due.MAX);
        Due.each("print(0, edition, 1)", e -> x.print(0, e, 1), -1, -1, 2, 4, Due.MIN, Due.MAX);
        Due.is("purse()", x.purse(), 0);
        Due.is("print(23, 0, 1)", x.print(23, 0, 1), 502);
        Due.is("print(0, 1, 1)", x.print(0, 1, 1), 502);
    }

    private static void printHasNotCome() {
        Due.of("27: NONE if the PART has not come");
        TaleHouse x = new TaleHouse();
        Due.is("print(0, 0, 1)", x.print(0, 0, 1), -1);
        x.came(0, 0);
        Due.is("print(0, 0, 1)", x.print(0, 0, 1), 502);
        Due.each("print(part, 0, 1)", part -> x.print(part, 0, 1), -1, 1, 2, 23);
        Due.is("stock(1, 0, 0)", x.stock(1, 0, 0), 0);
        Due.is("purse()", x.purse(), -502);
    }

    private static void printCopiesCantBe() {
        Due.of("27: NONE if the copies can't be");
        TaleHouse x = withParts(1);
        x.print(0, 0, 5);
        Due.each("print(0, 0, copies)", c -> x.print(0, 0, c), -1, 0, -1, 100001, Due.MIN, Due.MAX);
        Due.is("stock(0, 0, 0)", x.stock(0, 0, 0), 5);
        Due.is("purse()", x.purse(), -510);
    }

    // ---- promises 28 to 31

    private static void sellOneAtLeast() {
        Due.of("28: Copies (1 at least) of an EDITION are sold");
        TaleHouse x = withParts(1);
        x.print(0, 0, 5);
        Due.each("sell(0, 0, copies)", c -> x.sell(0, 0, c), -1, 0, -1, Due.MIN);
        Due.is("sell(0, 0, 1)", x.sell(0, 0, 1), 4);
        Due.is("purse()", x.purse(), 10 - 510);
    }

    private static void sellNotSoMany() {
        Due.of("28: what is left; NONE if there are not so many");
        TaleHouse x = withParts(2);
        x.mend(0);
        x.print(0, 0, 5);
        Due.each("sell(0, 0, copies)", c -> x.sell(0, 0, c), -1, 6, 100000, Due.MAX);
        Due.each("sell(part, 0, 1)", part -> x.sell(part, 0, 1), -1, -1, 1, 23, 24, Due.MIN, Due.MAX);
        Due.each("sell(0, edition, 1)", e -> x.sell(0, e, 1), -1, -1, 1, 2, 4, Due.MIN, Due.MAX);
        Due.is("stock(0, 0, 1)", x.stock(0, 0, 1), 0);
        Due.is("purse()", x.purse(), -510);
        Due.is("sell(0, 0, 5)", x.sell(0, 0, 5), 0);
        Due.is("sell(0, 0, 1)", x.sell(0, 0, 1), -1);
        x.print(0, 0, 3);
        x.volume(0, 0, 0, 1);
        Due.is("sell(0, 0, 3) with one in a volume", x.sell(0, 0, 3), -1);
        x.pulp(0, 0);
        Due.is("sell(0, 0, 1) with the others pulped", x.sell(0, 0, 1), -1);
    }

    private static void pulpAllThatIsLeft() {
        Due.of("29: All that is left of an EDITION is pulped: how many");
        TaleHouse x = withParts(1);
        x.prices(10, 2, 0, 1);
        Due.is("pulp(0, 0) of nothing", x.pulp(0, 0), 0);
        x.print(0, 0, 10);
        x.sell(0, 0, 2);
        x.volume(0, 0, 0, 3);
        Due.is("pulp(0, 0)", x.pulp(0, 0), 5);
        Due.is("pulp(0, 0) again", x.pulp(0, 0), 0);
        Due.is("purse()", x.purse(), 20 + 5 - 20);
        x.print(0, 0, 4);
        Due.is("pulp(0, 0)", x.pulp(0, 0), 4);
        Due.is("stock(0, 0, 2)", x.stock(0, 0, 2), 9);
        Due.is("pulp(5, 0) of one that has not come", x.pulp(5, 0), 0);
    }

    private static void pulpNoneSuch() {
        Due.of("29: NONE if there is none such");
        TaleHouse x = withParts(1);
        x.print(0, 0, 5);
        Due.each("pulp(part, 0)", part -> x.pulp(part, 0), -1, -1, 24, Due.MIN, Due.MAX);
        Due.each("pulp(0, edition)", e -> x.pulp(0, e), -1, -1, 1, 4, Due.MIN, Due.MAX);
        Due.is("stock(0, 0, 4)", x.stock(0, 0, 4), 5);
    }

    private static void stockNone() {
        Due.of("30: NONE if there is none such, or for others");
        TaleHouse x = withParts(1);
        x.print(0, 0, 5);
        Due.each("stock(0, 0, what)", what -> x.stock(0, 0, what), -1, -1, 6, Due.MIN, Due.MAX);
        Due.each("stock(part, 0, 0)", part -> x.stock(part, 0, 0), -1, -1, 24, Due.MIN, Due.MAX);
        Due.each("stock(0, edition, 0)", e -> x.stock(0, e, 0), -1, -1, 1, 4, Due.MIN, Due.MAX);
        Due.each("stock(part, 0, 0)", part -> x.stock(part, 0, 0), 0, 1, 23);
    }

    private static void stocksAgree() {
        Due.of("30: 0 copies printed, 1 sold, 2 pulped, 3 in volumes, 4 left");
        TaleHouse x = withParts(24);
        for (int edition = 1; edition <= 3; edition++) {
            x.mend(23);
        }
        x.print(23, 3, 100);
        x.sell(23, 3, 1);
        x.volume(23, 23, 3, 20);
        x.pulp(23, 3);
        x.print(23, 3, 400);
        int[] due = {500, 1, 79, 20, 400, 0};
        for (int what = 0; what < 6; what++) {
            Due.is("stock(23, 3, " + what + ")", x.stock(23, 3, what), due[what]);
            Due.is("stock(23, 2, " + what + ")", x.stock(23, 2, what), 0);
            Due.is("stock(22, 0, " + what + ")", x.stock(22, 0, what), 0);
        }
    }

    private static TaleHouse withCopies(int parts) {
        TaleHouse x = withParts(parts);
        for (int part = 0; part < parts; part++) {
            x.print(part, 0, 10 + part);
        }
        return x;
    }

    private static void volumesOneAtLeast() {
        Due.of("31: n VOLUMES (1 at least): -1 something can't be");
        TaleHouse x = withCopies(3);
        Due.each("volume(0, 2, 0, n)", n -> x.volume(0, 2, 0, n), -1, 0, -1, Due.MIN);
        Due.is("stock(0, 0, 3)", x.stock(0, 0, 3), 0);
        Due.is("volume(0, 2, 0, 1)", x.volume(0, 2, 0, 1), 9);
    }

    private static void volumePartsCantBe() {
        Due.of("31: of the PARTS from one up to another one: -1 something can't be");
        TaleHouse x = withCopies(24);
        Due.each("volume(from, 23, 0, 1)", from -> x.volume(from, 23, 0, 1), -1, -1, 24, Due.MIN, Due.MAX);
        Due.each("volume(0, to, 0, 1)", to -> x.volume(0, to, 0, 1), -1, -1, 24, Due.MIN, Due.MAX);
        Due.each("volume(5, to, 0, 1)", to -> x.volume(5, to, 0, 1), -1, 4, 0, -1);
        Due.is("volume(most, least, 0, 1)", x.volume(Due.MAX, Due.MIN, 0, 1), -1);
        for (int part = 0; part < 24; part++) {
            Due.is("stock(" + part + ", 0, 3)", x.stock(part, 0, 3), 0);
        }
        Due.is("volume(23, 23, 0, 1)", x.volume(23, 23, 0, 1), 32);
        Due.is("volume(0, 23, 0, 1)", x.volume(0, 23, 0, 1), 9);
        Due.is("stock(0, 0, 3)", x.stock(0, 0, 3), 1);
        Due.is("stock(23, 0, 3)", x.stock(23, 0, 3), 2);
    }

    private static void volumeAllOfOneEdition() {
        Due.of("31: all of one EDITION: -1 something can't be");
        TaleHouse x = withCopies(3);
        Due.each("volume(0, 2, edition, 1)", e -> x.volume(0, 2, e, 1), -1, -1, 1, 4, Due.MIN, Due.MAX);
        for (int part = 0; part < 3; part++) {
            Due.is("volume(0, 2, 1, 1) with a part lacking it", x.volume(0, 2, 1, 1), -1);
            x.mend(part);
        }
        Due.is("volume(0, 2, 1, 1) with none printed", x.volume(0, 2, 1, 1), -2);
        for (int part = 0; part < 3; part++) {
            x.print(part, 1, 2);
        }
        Due.is("volume(0, 2, 1, 1)", x.volume(0, 2, 1, 1), 1);
        Due.is("stock(0, 0, 3)", x.stock(0, 0, 3), 0);
    }

    private static void volumeNotSoManyLeft() {
        Due.of("31: -2 a PART has not so many left of it: nothing is done");
        for (int lacking = 0; lacking < 3; lacking++) {
            TaleHouse x = withParts(3);
            for (int part = 0; part < 3; part++) {
                x.print(part, 0, part == lacking ? 4 : 9);
            }
            Due.each("volume(0, 2, 0, n)", n -> x.volume(0, 2, 0, n), -2, 5, 9, 10, Due.MAX);
            for (int part = 0; part < 3; part++) {
                Due.is("stock(" + part + ", 0, 3)", x.stock(part, 0, 3), 0);
                Due.is("stock(" + part + ", 0, 4)", x.stock(part, 0, 4), part == lacking ? 4 : 9);
            }
            Due.is("volume(0, 2, 0, 4)", x.volume(0, 2, 0, 4), 0);
            Due.is("volume(0, 2, 0, 1)", x.volume(0, 2, 0, 1), -2);
        }
        Due.is("volume(0, 3, 0, 1) with one that has not come", withCopies(3).volume(0, 3, 0, 1), -2);
    }

    private static void volumesMore() {
        Due.of("31: how many there could be more of");
        TaleHouse x = withCopies(3);
        x.sell(0, 0, 1);
        Due.is("volume(0, 2, 0, 3)", x.volume(0, 2, 0, 3), 6);
        Due.is("volume(1, 2, 0, 8)", x.volume(1, 2, 0, 8), 0);
        Due.is("volume(0, 0, 0, 6)", x.volume(0, 0, 0, 6), 0);
        Due.is("volume(2, 2, 0, 1)", x.volume(2, 2, 0, 1), 0);
    }

    // ---- promises 32 to 35

    private static void foretellAllRowsGo() {
        Due.of("32: sale NONE: all rows go: how many there are");
        TaleHouse x = new TaleHouse();
        Due.is("foretell(NONE, 1) of none", x.foretell(TaleHouse.NONE, 1), 0);
        for (int row = 0; row < 8; row++) {
            x.foretell(50, 9);
        }
        Due.is("foretell(NONE, 1) of eight", x.foretell(TaleHouse.NONE, 1), 0);
        Due.is("best(0, 0)", x.best(0, 0), -1);
        Due.is("foretell(3, 1)", x.foretell(3, 1), 1);
        Due.each("foretell(NONE, lots)", lots -> x.foretell(TaleHouse.NONE, lots), 0, 0, -1, 100, Due.MIN, Due.MAX);
        x.foretell(3, 2);
        x.prices(10, 0, 0, 0);
        Due.is("worth(0, 0, 50): the old rows went", x.worth(0, 0, 50), 60);
    }

    private static void foretellNone() {
        Due.of("32: NONE if one can't be, or there are 8");
        TaleHouse x = new TaleHouse();
        x.prices(10, 0, 0, 0);
        x.foretell(3, 2);
        Due.each("foretell(sale, 2)", sale -> x.foretell(sale, 2), -1, -2, 100001);
        Due.each("foretell(4, lots)", lots -> x.foretell(4, lots), -1, 0, 100);
        Due.is("worth(0, 0, 5)", x.worth(0, 0, 5), 60);
        for (int row = 2; row <= 8; row++) {
            Due.is("row " + row, x.foretell(3, 2), row);
        }
        Due.each("foretell(sale, 2) behind eight", sale -> x.foretell(sale, 2), -1, 0, 3, 100000);
        Due.is("worth(0, 0, 5)", x.worth(0, 0, 5), 8 * 60);
    }

    private static void bestOf0AndAllSales() {
        Due.of("33: The copies, out of 0 and all sales foretold, that have the greatest WORTH");
        TaleHouse x = new TaleHouse();
        x.foretell(49, 1);
        Due.is("best(0, 0): 0 is worth more than a loss", x.best(0, 0), 0);
        x.foretell(-1, 1);
        x.foretell(63, 1);
        Due.is("best(0, 0): 63 copies bring 4", x.worth(0, 0, 63), 4);
        Due.is("best(0, 0)", x.best(0, 0), 63);
        x.foretell(-1, 1);
        for (int row = 1; row <= 8; row++) {
            x.foretell(100 * row, 1);
        }
        Due.is("best(0, 0): the last row but one", x.best(0, 0), 700);
        x.prices(10, 0, 0, 0);
        Due.is("best(0, 0): the last row", x.best(0, 0), 800);
        x.prices(10, 10, 0, 0);
        Due.is("best(0, 0): nothing is to be had", x.best(0, 0), 0);
    }

    private static void bestOfSeveralTheFewest() {
        Due.of("33: of several the fewest");
        TaleHouse x = new TaleHouse();
        x.prices(10, 5, 0, 0);
        x.foretell(200, 1);
        x.foretell(100, 1);
        Due.is("best(0, 0), told down", x.best(0, 0), 100);
        x.foretell(-1, 1);
        x.foretell(100, 1);
        x.foretell(200, 1);
        Due.is("best(0, 0), told up", x.best(0, 0), 100);
        x.foretell(-1, 1);
        x.foretell(100, 1);
        x.prices(10, 5, 500, 0);
        Due.is("worth(0, 0, 100)", x.worth(0, 0, 100), 0);
        Due.is("best(0, 0): 0 is the fewest", x.best(0, 0), 0);
    }

    private static void bestAsPlatesAreKept() {
        Due.of("33: PLATES as they are kept now");
        TaleHouse x = withParts(2);
        x.mend(0);
        x.foretell(50, 1);
        x.print(0, 0, 1);
        Due.is("best(0, 0)", x.best(0, 0), 0);
        x.keep(0, 0, true);
        Due.is("best(0, 0) with plates", x.best(0, 0), 50);
        Due.is("best(0, 1)", x.best(0, 1), 0);
        Due.is("best(1, 0)", x.best(1, 0), 0);
        x.keep(0, 0, false);
        Due.is("best(0, 0) without", x.best(0, 0), 0);
    }

    private static void bestNone() {
        Due.of("33: NONE without a FORETELLING, or if there is none such");
        TaleHouse x = withParts(1);
        Due.is("best(0, 0) without", x.best(0, 0), -1);
        x.foretell(5, 1);
        Due.each("best(part, 0)", part -> x.best(part, 0), -1, -1, 24, Due.MIN, Due.MAX);
        Due.each("best(0, edition)", e -> x.best(0, e), -1, -1, 1, 4, Due.MIN, Due.MAX);
        Due.each("best(part, 0): it need not have come", part -> x.best(part, 0), 0, 0, 1, 23);
        x.foretell(-1, 1);
        Due.is("best(0, 0) without", x.best(0, 0), -1);
    }

    private static void worthOf0To100000Copies() {
        Due.of("34: WORTH of c copies (0 .. 100000)");
        TaleHouse x = new TaleHouse();
        x.foretell(5, 1);
        Due.each("worth(0, 0, copies)", c -> x.worth(0, 0, c), NO_WORTH, -1, 100001, Due.MIN, Due.MAX);
        Due.is("worth(0, 0, 0)", x.worth(0, 0, 0), 0);
        Due.is("worth(0, 0, 100000)", x.worth(0, 0, 100000), 50 - 200500);
    }

    private static void worthNoneSuch() {
        Due.of("34: -9000000000000000000 if there is none such, or without a FORETELLING");
        TaleHouse x = withParts(1);
        Due.each("worth(0, 0, copies) without", c -> x.worth(0, 0, c), NO_WORTH, -1, 0, 5, 100000);
        x.foretell(5, 1);
        Due.each("worth(part, 0, 0)", part -> x.worth(part, 0, 0), NO_WORTH, -1, 24, Due.MIN, Due.MAX);
        Due.each("worth(0, edition, 0)", e -> x.worth(0, e, 0), NO_WORTH, -1, 1, 4, Due.MIN, Due.MAX);
        Due.each("worth(part, 0, 0): it need not have come", part -> x.worth(part, 0, 0), 0, 0, 1, 23);
        x.foretell(-1, 1);
        Due.is("worth(0, 0, 0) without", x.worth(0, 0, 0), NO_WORTH);
    }

    private static void purseOfLongRuns() {
        Due.of("35: What was taken for copies sold and pulped, less what printing cost, where no int holds it");
        TaleHouse x = withParts(1);
        x.prices(10000, 10000, 10000, 10000);
        for (int i = 0; i < 100; i++) {
            x.print(0, 0, 100000);
        }
        Due.is("purse() of printing", x.purse(), -100L * 1000010000L);
        Due.is("sell(0, 0, 6000000)", x.sell(0, 0, 6000000), 4000000);
        Due.is("purse() of copies sold", x.purse(), 60000000000L - 100001000000L);
        Due.is("pulp(0, 0)", x.pulp(0, 0), 4000000);
        Due.is("purse() of copies pulped", x.purse(), -1000000);
    }
}
