/** Promises 12 to 18: fact, fault, strike, quarrel, quarrels, found, mend. */
public final class FactsTest {
    private static final int MIN = Due.MIN;
    private static final int MAX = Due.MAX;

    public static void main(String[] args) {
        fact();
        goodTexts();
        faults();
        factLimits();
        fault();
        strike();
        quarrel();
        quarrelIsOfWholeNames();
        quarrels();
        allQuarrel();
        mend();
        Due.finish();
    }

    private static void fact() {
        TaleHouse x = new TaleHouse();
        Due.is("fact(0, 0)", Due.tell(x, "eva born 3;", 0, 0), 0);
        Due.is("fact(23, 0)", Due.tell(x, "eva dead 3;", 23, 0), 1);
        Due.is("fact(24, 0)", Due.tell(x, "eva born 3;", 24, 0), -2);
        Due.is("fault(0) without", x.fault(0), 0);
        Due.is("fault(1) without", x.fault(1), -1);
        Due.no("the tape went", x.end(1));
        Due.is("fact(-1, 0)", Due.tell(x, "eva born 3;", -1, 0), -2);
        Due.is("fact(least, 0)", Due.tell(x, "eva born 3;", MIN, 0), -2);
        Due.is("fact(0, 1)", Due.tell(x, "eva born 3;", 0, 1), -2);
        Due.is("fact(0, -1)", Due.tell(x, "eva born 3;", 0, -1), -2);
        Due.is("fact(0, most)", Due.tell(x, "eva born 3;", 0, MAX), -2);
        x.mend(0);
        Due.is("fact(0, 1) mended", Due.tell(x, "eva born 3;", 0, 1), 2);
        Due.is("a fault is seen ahead of the part", Due.tell(x, "eva 3;", 24, 0), -1);
        Due.no("the tape went", x.end(1));
    }

    private static void goodTexts() {
        String[] good = {
            "eva born 3;", "  eva born 3 ;  ", "eva\nborn\n3\n;\n", "eva born3;", "a in b on 0;", "a in b on99999;",
            "abcdefghij born 00000;", "eva in abcdefghij on 12345;", "borne in ino on 5;", "deadly dead 5;",
            "onn born 1;", "late dead 1;", "percent born 7;", "z in z on 00001 ;",
        };
        for (String text : good) {
            Due.goodFact(text);
        }
    }

    private static void faults() {
        Due.badFact("", 0);
        Due.badFact("   ", 3);
        Due.badFact(";", 0);
        Due.badFact("3", 0);
        Due.badFact("eva", 3);
        Due.badFact("eva  ", 5);
        Due.badFact("eva born", 8);
        Due.badFact("eva born 3", 10);
        Due.badFact("eva born 3 ", 11);
        Due.badFact("eva born 3; x", 12);
        Due.badFact("eva born 3;;", 11);
        Due.badFact("eva born 3; tom born 4;", 12);
        Due.badFact("eva born 3,", 10);
        Due.badFact("eva born 3 4;", 11);
        Due.badFact("eva born x;", 9);
        Due.badFact("eva born ;", 9);
        Due.badFact("evaborn 3;", 8);
        Due.badFact("eva bornx 3;", 4);
        Due.badFact("eva bor 3;", 4);
        Due.badFact("eva on rome in 3;", 4);
        Due.badFact("born born 3;", 0);
        Due.badFact("dead born 3;", 0);
        Due.badFact("in born 3;", 0);
        Due.badFact(" on born 3;", 1);
        Due.badFact("eva in in on 3;", 7);
        Due.badFact("eva in born on 3;", 7);
        Due.badFact("eva in rome 3;", 12);
        Due.badFact("eva in rome in 3;", 12);
        Due.badFact("eva in rome onn 3;", 12);
        Due.badFact("eva in 3 on 3;", 7);
        Due.badFact("eva in rome on;", 14);
        Due.badFact("eva in rome", 11);
        Due.badFact("Eva born 3;", 0);
        Due.badFact("eVa born 3;", 1);
        Due.badFact("eva\tborn 3;", 3);
        Due.badFact("eva\0born 3;", 3);
        Due.badFact("eva born -3;", 9);
        Due.badFact("eva born 3.5;", 10);
        Due.badFact("eva born 3x;", 10);
        Due.badFact("eva1 born 3;", 3);
        Due.badFact("ev\u00e4 born 3;", 2);
        Due.badFact("`a born 3;", 0);
        Due.badFact("{a born 3;", 0);
        Due.badFact("eva born /3;", 9);
        Due.badFact("eva born :3;", 9);
        // an 11th letter and a 6th digit at itself, where a name or a day may stand
        Due.badFact("abcdefghijk born 3;", 10);
        Due.badFact(" abcdefghijklmn", 11);
        Due.badFact("eva in abcdefghijk on 3;", 17);
        Due.badFact("eva born 123456;", 14);
        Due.badFact("eva born 000003;", 14);
        Due.badFact("eva in rome on 1234567;", 20);
        // elsewhere they are wrong from their first byte on
        Due.badFact("eva abcdefghijkl 3;", 4);
        Due.badFact("eva 1234567 born;", 4);
        Due.badFact("1234567", 0);
        Due.badFact("eva born abcdefghijkl;", 9);
        Due.badFact("eva born 3 1234567;", 11);
    }

    private static void factLimits() {
        TaleHouse x = new TaleHouse();
        for (int i = 0; i < 60; i++) {
            Due.is("fact " + i, Due.tell(x, "eva born 3;", i % 24, 0), i);
        }
        Due.is("a 61st fact", Due.tell(x, "eva born 3;", 0, 0), -2);
        Due.is("fault(0)", x.fault(0), 0);
        Due.is("a 61st fact with a fault", Due.tell(x, "eva born ;", 0, 0), -1);
        Due.is("quarrel(59, 58)", x.quarrel(59, 58), 0);
        Due.is("quarrel(60, 58)", x.quarrel(60, 58), -1);
    }

    private static void fault() {
        TaleHouse x = new TaleHouse();
        Due.is("fault(2)", x.fault(2), -1);
        Due.is("fault(-1)", x.fault(-1), -1);
        Due.tell(x, "eva ;", 0, 0);
        Due.is("fault(0)", x.fault(0), 1);
        Due.is("fault(1)", x.fault(1), 4);
        Due.is("fault(2)", x.fault(2), -1);
        Due.is("fault(least)", x.fault(MIN), -1);
        x.feed(0, 0, 0, 0, 0);
        Due.is("fault(1) stays", x.fault(1), 4);
        x.end(0);
        Due.agree(x, "200 percent late 3;", 0);
        Due.is("fault(0) of agree", x.fault(0), 2);
        Due.is("fault(1) of agree", x.fault(1), 0);
        Due.agree(x, "20 percent late 3;", 0);
        Due.is("fault(0) without", x.fault(0), 0);
        Due.is("fault(1) without", x.fault(1), -1);
    }

    private static void strike() {
        TaleHouse x = new TaleHouse();
        Due.no("strike(0, 0) of none", x.strike(0, 0));
        Due.tell(x, "eva born 3;", 5, 0);
        Due.no("strike(0, 0)", x.strike(0, 0));
        Due.no("strike(0, 1): no such edition", x.strike(0, 1));
        x.mend(5);
        x.mend(5);
        Due.tell(x, "eva born 4;", 5, 1);
        Due.no("strike(1, 1)", x.strike(1, 1));
        Due.no("strike(1, 0)", x.strike(1, 0));
        Due.no("strike(1, 3)", x.strike(1, 3));
        Due.no("strike(1, -1)", x.strike(1, -1));
        Due.no("strike(-1, 1)", x.strike(-1, 1));
        Due.no("strike(2, 1)", x.strike(2, 1));
        Due.no("strike(most, most)", x.strike(MAX, MAX));
        Due.yes("strike(1, 2)", x.strike(1, 2));
        Due.no("strike(1, 2) again", x.strike(1, 2));
        x.mend(5);
        Due.no("strike(1, 3) of one that is struck", x.strike(1, 3));
        Due.yes("strike(0, 1)", x.strike(0, 1));
    }

    private static void quarrel() {
        TaleHouse x = new TaleHouse();
        String[] texts = {
            "eva born 10;", "eva born 11;", "eva dead 50;", "eva dead 51;", "eva in rome on 20;", "eva in bath on 20;",
            "eva in rome on 9;", "eva in rome on 10;", "eva in rome on 52;", "eva in rome on 50;", "eva dead 10;",
            "eva dead 9;", "tom born 99;", "tom in york on 20;", "eva born 10;", "eva in rome on 20;",
        };
        for (int i = 0; i < texts.length; i++) {
            Due.is(texts[i], Due.tell(x, texts[i], i, 0), i);
        }
        int[][] due = {
            {0, 1, 1}, {0, 14, 0}, {2, 3, 1}, {0, 2, 0}, {0, 10, 0}, {0, 11, 4}, {1, 10, 4}, {4, 5, 2}, {4, 15, 0},
            {4, 7, 0}, {5, 6, 0}, {0, 6, 3}, {0, 7, 0}, {1, 7, 3}, {2, 8, 3}, {2, 9, 0}, {3, 9, 0}, {3, 8, 3},
            {0, 12, 0}, {4, 12, 0}, {5, 13, 0}, {12, 13, 3}, {11, 12, 0}, {10, 7, 0}, {11, 7, 3}, {2, 6, 0}, {0, 8, 0},
        };
        for (int[] d : due) {
            Due.is("quarrel(" + d[0] + ", " + d[1] + ")", x.quarrel(d[0], d[1]), d[2]);
            Due.is("quarrel(" + d[1] + ", " + d[0] + ")", x.quarrel(d[1], d[0]), d[2]);
        }
        Due.is("quarrel(0, 16)", x.quarrel(0, 16), -1);
        Due.is("quarrel(16, 0)", x.quarrel(16, 0), -1);
        Due.is("quarrel(-1, 0)", x.quarrel(-1, 0), -1);
        Due.is("quarrel(0, least)", x.quarrel(0, MIN), -1);
        Due.is("quarrel(3, 3): not two", x.quarrel(3, 3), -1);
        x.mend(0);
        x.strike(0, 1);
        Due.is("quarrel(0, 1) of a struck one", x.quarrel(0, 1), 1);
    }

    private static void quarrelIsOfWholeNames() {
        TaleHouse x = new TaleHouse();
        Due.tell(x, "aaaaaaaaaa born 1;", 0, 0);
        Due.tell(x, "aaaaaaaaab born 2;", 0, 0);
        Due.tell(x, "aaaaaaaaa born 3;", 0, 0);
        Due.tell(x, "baaaaaaaaa born 4;", 0, 0);
        Due.tell(x, "zzzzzzzzzz born 5;", 0, 0);
        Due.tell(x, "zzzzzzzzz born 6;", 0, 0);
        Due.is("quarrels(0) of unlike names", x.quarrels(0), 0);
        Due.tell(x, "zzzzzzzzzz in aaaaaaaaaa on 7;", 0, 0);
        Due.tell(x, "zzzzzzzzzz in aaaaaaaaab on 00007;", 0, 0);
        Due.is("quarrel(6, 7)", x.quarrel(6, 7), 2);
        Due.tell(x, "zzzzzzzzzz born 00005;", 0, 0);
        Due.is("quarrel(4, 8)", x.quarrel(4, 8), 0);
    }

    private static void quarrels() {
        TaleHouse x = new TaleHouse();
        x.mend(1);
        x.mend(1);
        Due.tell(x, "eva born 10;", 0, 0);
        Due.tell(x, "eva born 11;", 1, 0);
        Due.tell(x, "eva born 12;", 1, 1);
        Due.tell(x, "eva born 13;", 1, 2);
        x.strike(1, 1);
        Due.is("quarrels(-1)", x.quarrels(-1), -1);
        Due.is("quarrels(4)", x.quarrels(4), -1);
        Due.is("quarrels(0)", x.quarrels(0), 1);
        founds(x, new int[][] {{0, 1}});
        Due.is("quarrels(4)", x.quarrels(4), -1);
        founds(x, new int[][] {{0, 1}});
        Due.is("quarrels(1)", x.quarrels(1), 1);
        founds(x, new int[][] {{0, 2}});
        Due.is("quarrels(2)", x.quarrels(2), 3);
        founds(x, new int[][] {{0, 2}, {0, 3}, {2, 3}});
        Due.is("quarrels(3): the last edition", x.quarrels(3), 3);
        x.strike(2, 2);
        founds(x, new int[][] {{0, 2}, {0, 3}, {2, 3}});
        Due.is("quarrels(3) with one struck", x.quarrels(3), 1);
        founds(x, new int[][] {{0, 3}});
        Due.is("quarrels(1)", x.quarrels(1), 1);
        founds(x, new int[][] {{0, 2}});
    }

    private static void founds(TaleHouse x, int[][] pairs) {
        for (int k = 0; k < pairs.length; k++) {
            Due.is("found(" + k + ", 0)", x.found(k, 0), pairs[k][0]);
            Due.is("found(" + k + ", 1)", x.found(k, 1), pairs[k][1]);
            Due.is("found(" + k + ", 2)", x.found(k, 2), -1);
            Due.is("found(" + k + ", -1)", x.found(k, -1), -1);
        }
        Due.is("found(-1, 0)", x.found(-1, 0), -1);
        Due.is("found(" + pairs.length + ", 0)", x.found(pairs.length, 0), -1);
        Due.is("found(most, 1)", x.found(MAX, 1), -1);
    }

    private static void allQuarrel() {
        TaleHouse x = new TaleHouse();
        for (int i = 0; i < 60; i++) {
            Due.tell(x, "eva born " + i + ";", i % 24, 0);
        }
        Due.is("quarrels(0) of sixty", x.quarrels(0), 1770);
        Due.is("found(58, 1)", x.found(58, 1), 59);
        Due.is("found(59, 0)", x.found(59, 0), 1);
        Due.is("found(1769, 0)", x.found(1769, 0), 58);
        Due.is("found(1769, 1)", x.found(1769, 1), 59);
        Due.is("found(1770, 0)", x.found(1770, 0), -1);
    }

    private static void mend() {
        TaleHouse x = new TaleHouse();
        Due.is("mend(-1)", x.mend(-1), -1);
        Due.is("mend(24)", x.mend(24), -1);
        Due.is("mend(least)", x.mend(MIN), -1);
        Due.is("mend(23)", x.mend(23), 1);
        Due.is("mend(23)", x.mend(23), 2);
        Due.is("mend(23)", x.mend(23), 3);
        Due.is("mend(23)", x.mend(23), -1);
        Due.is("mend(22)", x.mend(22), 1);
        Due.is("stock(23, 3, 0)", x.stock(23, 3, 0), 0);
        Due.is("stock(23, 4, 0)", x.stock(23, 4, 0), -1);
        Due.is("stock(22, 2, 0)", x.stock(22, 2, 0), -1);
    }
}
