/** Promises 19 to 24: agree, agreed, share, start, came, due. */
public final class AgreementsTest {
    private static final int MIN = Due.MIN;
    private static final int MAX = Due.MAX;

    public static void main(String[] args) {
        goodTexts();
        faults();
        agree();
        agreed();
        share();
        shareAtEdges();
        start();
        came();
        due();
        Due.finish();
    }

    private static void goodTexts() {
        String[] good = {
            "10 percent to 500, 12 percent late 3 ;", "0percent late0;", "100 percent late 9999;",
            " 7\npercent\nlate\n00009\n; \n", "1 percent to 1,2 percent to 2,3 percent to 3,4 percent to 4,5 percent late 5;",
            "1percent to99999,00100percent late00000;",
        };
        for (String text : good) {
            Due.goodAgreement(text);
        }
    }

    private static void faults() {
        Due.badAgreement("", 1, 0);
        Due.badAgreement(" \n", 1, 2);
        Due.badAgreement("percent", 1, 0);
        Due.badAgreement("10", 1, 2);
        Due.badAgreement("10 ", 1, 3);
        Due.badAgreement("10 percen late 3;", 1, 3);
        Due.badAgreement("10 percents late 3;", 1, 3);
        Due.badAgreement("10 percentlate 3;", 1, 3);
        Due.badAgreement("10 percent", 1, 10);
        Due.badAgreement("10 percent ;", 1, 11);
        Due.badAgreement("10 percent 5;", 1, 11);
        Due.badAgreement("10 percent, 5 percent late 3;", 1, 10);
        Due.badAgreement("10 percent late", 1, 15);
        Due.badAgreement("10 percent late ;", 1, 16);
        Due.badAgreement("10 percent late 3", 1, 17);
        Due.badAgreement("10 percent late 3;;", 1, 18);
        Due.badAgreement("10 percent late 3; 4", 1, 19);
        Due.badAgreement("10 percent late 3 4;", 1, 18);
        Due.badAgreement("10 percent to late 3;", 1, 14);
        Due.badAgreement("10 percent to 500 late 3;", 1, 18);
        Due.badAgreement("10 percent to 500;", 1, 17);
        Due.badAgreement("10 percent to 500,", 1, 18);
        Due.badAgreement("10 percent to 500, late 3;", 1, 19);
        Due.badAgreement("10 percent to 500 12 percent late 3;", 1, 18);
        Due.badAgreement("10 percent toolongaword 5;", 1, 11);
        Due.badAgreement("abcdefghijklm percent late 3;", 1, 0);
        Due.badAgreement("-1 percent late 3;", 1, 0);
        // a sixth digit at itself
        Due.badAgreement("000010 percent late 3;", 1, 5);
        Due.badAgreement("200000 percent late 3;", 1, 5);
        Due.badAgreement("10 percent to 100000, 3 percent late 3;", 1, 19);
        Due.badAgreement("10 percent late 1000000;", 1, 21);
        Due.badAgreement("10 1234567", 1, 3);
        // numbers that can't be
        Due.badAgreement("101 percent late 3;", 2, 0);
        Due.badAgreement(" 99999 percent late 3;", 2, 1);
        Due.badAgreement("10 percent to 0, 5 percent late 3;", 2, 14);
        Due.badAgreement("10 percent late 10000;", 2, 16);
        Due.badAgreement("10 percent to 5, 6 percent to 5, 5 percent late 3;", 2, 30);
        Due.badAgreement("10 percent to 5, 6 percent to 4, 5 percent late 3;", 2, 30);
        Due.badAgreement("10 percent to 99999, 6 percent to 99999, 5 percent late 3;", 2, 34);
        Due.badAgreement("10 percent to 5, 101 percent late 3;", 2, 17);
        // the first of several
        Due.badAgreement("101 percent x", 2, 0);
        Due.badAgreement("101 x", 2, 0);
        Due.badAgreement("101", 2, 0);
        Due.badAgreement("10 x 101", 1, 3);
        // a sixth step
        String five = "1 percent to 1,1 percent to 2,1 percent to 3,1 percent to 4,1 percent to 5";
        Due.badAgreement(five + ", 1 percent late 3;", 1, five.length() + 2);
        Due.badAgreement(five + ",", 1, five.length() + 1);
        Due.badAgreement(five + ", ", 1, five.length() + 2);
        Due.badAgreement(five + ", 999 percent late 3;", 1, five.length() + 2);
        Due.badAgreement(five + ", 1234567", 1, five.length() + 2);
        Due.badAgreement(five + " late 3;", 1, five.length() + 1);
    }

    private static void agree() {
        TaleHouse x = new TaleHouse();
        Due.is("agree(24)", Due.agree(x, "5 percent late 1;", 24), -2);
        Due.is("agree(-1)", Due.agree(x, "5 percent late 1;", -1), -2);
        Due.is("fault(0)", x.fault(0), 0);
        Due.no("the tape went", x.end(1));
        Due.is("agree(24) with a fault", Due.agree(x, "5 percent", 24), -1);
        Due.no("the tape went", x.end(1));
        for (int i = 0; i < 12; i++) {
            Due.is("agree " + i, Due.agree(x, "5 percent late 1;", 23 - i), i);
        }
        Due.is("a 13th agreement", Due.agree(x, "5 percent late 1;", 0), -2);
        Due.is("a 13th agreement with a fault", Due.agree(x, "5 percent late;", 0), -1);
        Due.is("fault(1)", x.fault(1), 14);
    }

    private static void agreed() {
        TaleHouse x = new TaleHouse();
        Due.agree(x, "5 percent late 1;", 4);
        Due.agree(x, "6 percent late 1;", 8);
        Due.agree(x, "7 percent late 1;", 6);
        Due.is("agreed(3)", x.agreed(3), -1);
        Due.is("agreed(4)", x.agreed(4), 0);
        Due.is("agreed(5)", x.agreed(5), 0);
        Due.is("agreed(6)", x.agreed(6), 2);
        Due.is("agreed(8)", x.agreed(8), 2);
        Due.is("agreed(23)", x.agreed(23), 2);
        Due.is("agreed(24)", x.agreed(24), -1);
        Due.is("agreed(-1)", x.agreed(-1), -1);
        Due.is("agreed(most)", x.agreed(MAX), -1);
    }

    private static void share() {
        TaleHouse x = new TaleHouse();
        Due.is("share(0) without", x.share(0), -1);
        Due.agree(x, "10 percent to 3, 33 percent to 5, 1 percent late 4;", 0);
        Due.is("share(0) of none sold", x.share(0), 0);
        Due.is("share(23)", x.share(23), 0);
        Due.is("share(24)", x.share(24), -1);
        Due.is("share(-1)", x.share(-1), -1);
        x.prices(7, 1, 0, 0);
        x.came(0, 0);
        x.print(0, 0, 1000);
        long percents = 0;
        for (int n = 1; n <= 20; n++) {
            x.sell(0, 0, 1);
            percents += n <= 3 ? 10 : n <= 5 ? 33 : 1;
            Due.is("share(0) of " + n, x.share(0), percents * 7 / 100);
        }
        x.mend(0);
        x.print(0, 1, 1000);
        x.sell(0, 1, 900);
        Due.is("share(0) of all editions", x.share(0), (30 + 66 + 15 + 900) * 7 / 100);
        x.volume(0, 0, 0, 100);
        x.pulp(0, 0);
        Due.is("share(0) has no volumes", x.share(0), (30 + 66 + 15 + 900) * 7 / 100);
        x.prices(1000, 1, 0, 0);
        Due.is("share(0) at the price now", x.share(0), 10110);
        x.came(1, 40);
        x.print(1, 0, 3);
        x.sell(1, 0, 3);
        Due.is("share(1) ten days late", x.share(1), 300 - 40);
        x.came(2, 500);
        x.print(2, 0, 3);
        x.sell(2, 0, 3);
        Due.is("share(2) is 0 at least", x.share(2), 0);
        Due.agree(x, "50 percent late 0;", 1);
        Due.is("share(2) by the agreement told last", x.share(2), 1500);
    }

    private static void shareAtEdges() {
        TaleHouse x = new TaleHouse();
        Due.agree(x, "0 percent to 99999, 100 percent late 9999;", 0);
        x.prices(10000, 0, 0, 0);
        x.came(0, 1);
        for (int i = 0; i < 100; i++) {
            x.print(0, 0, 100000);
        }
        Due.is("sell ten millions", x.sell(0, 0, 10000000), 0);
        Due.is("share(0) of ten millions", x.share(0), (10000000L - 99999) * 10000 - 9999);
        Due.is("purse()", x.purse(), 100000000000L);
    }

    private static void start() {
        TaleHouse x = new TaleHouse();
        Due.no("start(-1)", x.start(-1));
        Due.no("start(20001)", x.start(20001));
        Due.no("start(least)", x.start(MIN));
        Due.is("due(0)", x.due(0), 0);
        Due.yes("start(20000)", x.start(20000));
        Due.is("due(0)", x.due(0), 20000);
        Due.yes("start(0)", x.start(0));
        Due.yes("start(12)", x.start(12));
        x.came(0, 3);
        Due.no("start(5) behind a part", x.start(5));
        Due.is("due(0)", x.due(0), 12);
    }

    private static void came() {
        TaleHouse x = new TaleHouse();
        x.start(100);
        Due.is("came(1, 5) ahead of 0", x.came(1, 5), -1);
        Due.is("came(-1, 5)", x.came(-1, 5), -1);
        Due.is("came(24, 5)", x.came(24, 5), -1);
        Due.is("came(most, 5)", x.came(MAX, 5), -1);
        Due.is("came(0, -1)", x.came(0, -1), -1);
        Due.is("came(0, 30001)", x.came(0, 30001), -1);
        Due.is("came(0, 90)", x.came(0, 90), 0);
        Due.is("came(0, 90) again", x.came(0, 90), -1);
        Due.is("came(1, 89): the one before came later", x.came(1, 89), -1);
        Due.is("came(1, 90)", x.came(1, 90), 0);
        Due.is("came(2, 161)", x.came(2, 161), 1);
        Due.is("came(3, 30000)", x.came(3, 30000), 30000 - 220);
        Due.is("came(4, 30000)", x.came(4, 30000), 0);
        Due.is("came(4, 30000) again", x.came(4, 30000), -1);
        TaleHouse y = new TaleHouse();
        for (int p = 0; p < 24; p++) {
            Due.is("came(" + p + ", " + 30 * p + ")", y.came(p, 30 * p), 0);
        }
        Due.is("came(24, 800)", y.came(24, 800), -1);
    }

    private static void due() {
        TaleHouse x = new TaleHouse();
        Due.is("due(-1)", x.due(-1), -1);
        Due.is("due(24)", x.due(24), -1);
        Due.is("due(least)", x.due(MIN), -1);
        Due.is("due(23)", x.due(23), 690);
        x.came(0, 30);
        Due.is("due(1): 30 late", x.due(1), 60);
        x.came(1, 91);
        Due.is("due(2): 31 late", x.due(2), 150);
        x.came(2, 100);
        Due.is("due(3): not late", x.due(3), 180);
        x.came(3, 181);
        Due.is("due(4): one late", x.due(4), 240);
        Due.is("due(5): as if in time", x.due(5), 270);
        Due.is("due(0)", x.due(0), 0);
        Due.is("due(1) stays", x.due(1), 60);
    }
}
