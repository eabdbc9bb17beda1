/** Each sentence that names a boundary case in terms III, in the days of terms IV, and in promises 19 to 24. */
public final class AgreementsBoundsTest {
    private static final String GOOD = "5 percent late 1;";

    public static void main(String[] args) {
        termsOfTexts();
        termsOfFaults();
        termsOfShares();
        termsOfDays();
        promisesOfAgreements();
        promisesOfDays();
        Due.finish();
    }

    private static void termsOfTexts() {
        textLikewise();
        oneTo5Steps();
        percentFrom0To100();
        toFrom1To99999();
        toIsRising();
        lateFrom0To9999();
    }

    private static void termsOfFaults() {
        firstByteWithWhichNoneGoesOn();
        wordsHereAre();
        endsTooSoon();
        sixthDigit();
        sixthStep();
        numberThatCantBe();
    }

    private static void termsOfShares() {
        toldFromAPartOn();
        firstStepWhoseToItDoesNotPass();
        lastStepAllOthers();
        soldOfAllEditions();
        over100Floored();
        lessLateForEachDay();
        zeroAtLeast();
    }

    private static void termsOfDays() {
        startFrom0To20000();
        thirtyDaysBehindTheOneBefore();
        thirtyTimesTheLeastWhole();
        comesOnce();
    }

    private static void promisesOfAgreements() {
        theTapeGoes();
        agreeWithAFault();
        agreeNoSuchPart();
        agreeOf13();
        agreedNone();
        shareNone();
    }

    private static void promisesOfDays() {
        startFalse();
        cameHowManyDaysLate();
        cameNoSuchPart();
        cameNoSuchDay();
        cameAlready();
        cameAheadOfTheOneBefore();
        dueAsIfInTime();
        dueNone();
    }

    // ---- terms III: texts

    private static void textLikewise() {
        Due.of("III: An AGREEMENT's TEXT, likewise: STEP { , STEP } late NUMBER ;");
        Due.goodAgreement("10 percent to 500, 12 percent late 3 ;");
        Due.goodAgreement("10percent to500,12percent late3;");
        Due.goodAgreement("10\npercent\nto\n500\n,\n12\npercent\nlate\n3\n;");
        Due.goodAgreement("5 percent late" + " ".repeat(184) + "1;");
        Due.badAgreement("5 percentlate 1;", 1, 2);
        Due.badAgreement("5 percent to 9, 5 percentlate 1;", 1, 18);
        Due.badAgreement("5 percent\tlate 1;", 1, 9);
        Due.badAgreement("5 percent late 1 2;", 1, 17);
        Due.badAgreement("5 6 percent late 1;", 1, 2);
        Due.badAgreement("5 percent late 1", 1, 16);
    }

    private static String steps(int count) {
        StringBuilder text = new StringBuilder();
        for (int step = 1; step < count; step++) {
            text.append(step).append(" percent to ").append(step).append(", ");
        }
        return text.append("9 percent late 3;").toString();
    }

    private static void oneTo5Steps() {
        Due.of("III: 1 to 5 STEPS");
        for (int count = 1; count <= 5; count++) {
            Due.goodAgreement(steps(count));
        }
        Due.badAgreement(steps(6), 1, steps(6).indexOf("9 percent"));
        Due.badAgreement("late 3;", 1, 0);
        Due.badAgreement(";", 1, 0);
        TaleHouse x = new TaleHouse();
        Due.agree(x, "1 percent to 1,2 percent to 3,4 percent to 6,8 percent to 10,16 percent late 0;", 0);
        x.came(0, 0);
        x.prices(100, 0, 0, 0);
        x.print(0, 0, 12);
        x.sell(0, 0, 12);
        Due.is("share(0) of all five", x.share(0), 1 + 2 * 2 + 3 * 4 + 4 * 8 + 2 * 16);
    }

    private static void percentFrom0To100() {
        Due.of("III: percent 0 .. 100");
        for (String percent : new String[] {"0", "1", "99", "100", "00100", "00000"}) {
            Due.goodAgreement(percent + " percent late 3;");
            Due.goodAgreement("5 percent to 9, " + percent + " percent late 3;");
        }
        for (String percent : new String[] {"101", "00101", "999", "99999"}) {
            Due.badAgreement(percent + " percent late 3;", 2, 0);
            Due.badAgreement("5 percent to 9, " + percent + " percent late 3;", 2, 16);
        }
        Due.badAgreement("-1 percent late 3;", 1, 0);
    }

    private static void toFrom1To99999() {
        Due.of("III: to 1 .. 99999");
        for (String to : new String[] {"1", "00001", "99998", "99999"}) {
            Due.goodAgreement("5 percent to " + to + ", 6 percent late 3;");
        }
        Due.badAgreement("5 percent to 0, 6 percent late 3;", 2, 13);
        Due.badAgreement("5 percent to 00000, 6 percent late 3;", 2, 13);
        Due.badAgreement("5 percent to 100000, 6 percent late 3;", 1, 18);
        Due.badAgreement("5 percent to 7, 5 percent to 0, 6 percent late 3;", 2, 29);
    }

    private static void toIsRising() {
        Due.of("III: to and rising");
        Due.goodAgreement("5 percent to 7, 5 percent to 8, 6 percent late 3;");
        Due.goodAgreement("5 percent to 99998, 5 percent to 99999, 6 percent late 3;");
        Due.badAgreement("5 percent to 7, 5 percent to 7, 6 percent late 3;", 2, 29);
        Due.badAgreement("5 percent to 7, 5 percent to 6, 6 percent late 3;", 2, 29);
        Due.badAgreement("5 percent to 7, 5 percent to 00007, 6 percent late 3;", 2, 29);
        Due.badAgreement("5 percent to 99999, 5 percent to 99999, 6 percent late 3;", 2, 33);
        Due.badAgreement("5 percent to 7, 5 percent to 9, 5 percent to 8, 6 percent late 3;", 2, 45);
        Due.badAgreement("1 percent to 1,1 percent to 2,1 percent to 3,1 percent to 3,1 percent late 3;", 2, 58);
    }

    private static void lateFrom0To9999() {
        Due.of("III: late 0 .. 9999");
        for (String late : new String[] {"0", "1", "9998", "9999", "09999", "00000"}) {
            Due.goodAgreement("5 percent late " + late + ";");
        }
        Due.badAgreement("5 percent late 10000;", 2, 15);
        Due.badAgreement("5 percent late 99999;", 2, 15);
        Due.badAgreement("5 percent to 9, 6 percent late 10000;", 2, 31);
        Due.badAgreement("5 percent late -1;", 1, 15);
    }

    // ---- terms III: faults

    private static void firstByteWithWhichNoneGoesOn() {
        Due.of("III: FAULTS: 1 likewise: the first byte with which no AGREEMENT goes on");
        Due.badAgreement("!", 1, 0);
        Due.badAgreement("5 !", 1, 2);
        Due.badAgreement("5 percent, 6 percent late 3;", 1, 9);
        Due.badAgreement("5 percent 9", 1, 10);
        Due.badAgreement("5 percent to 9 late 3;", 1, 15);
        Due.badAgreement("5 percent to 9;", 1, 14);
        Due.badAgreement("5 percent to 9, late 3;", 1, 16);
        Due.badAgreement("5 percent to 9,, 6 percent late 3;", 1, 15);
        Due.badAgreement("5 percent late 3,", 1, 16);
        Due.badAgreement("5 percent late 3;;", 1, 17);
        Due.badAgreement("5 percent late 3; 5 percent late 3;", 1, 18);
        Due.badAgreement("5 percent late 3;" + " ".repeat(182) + "x", 1, 199);
        Due.badAgreement("eva born 3;", 1, 0);
        Due.badAgreement("5 percent x 101 percent", 1, 10);
    }

    private static void wordsHereAre() {
        Due.of("III: words here are percent, to, late");
        for (String word : new String[] {"percen", "percents", "p", "to", "late", "born", "in", "eva", "abcdefghijkl"}) {
            Due.badAgreement("5 " + word + " late 3;", 1, 2);
        }
        for (String word : new String[] {"t", "too", "lat", "lately", "percent", "on", "dead", "abcdefghijkl"}) {
            Due.badAgreement("5 percent " + word + " 3;", 1, 10);
        }
        Due.badAgreement("percent 5 late 3;", 1, 0);
        Due.badAgreement("five percent late 3;", 1, 0);
        Due.badAgreement("5 percent late late;", 1, 15);
        Due.badAgreement("5 percent to late 3;", 1, 13);
    }

    private static void endsTooSoon() {
        Due.of("III: likewise: at the text's length, if it ends too soon");
        String[] parts = {
            "", "5", "5 percent", "5 percent to", "5 percent to 9", "5 percent to 9,", "5 percent to 9, 6",
            "5 percent to 9, 6 percent", "5 percent to 9, 6 percent late", "5 percent to 9, 6 percent late 3",
        };
        for (String part : parts) {
            Due.badAgreement(part, 1, part.length());
            Due.badAgreement(part + "\n ", 1, part.length() + 2);
        }
        Due.badAgreement(" ".repeat(200), 1, 200);
        Due.badAgreement("5 percent late 3" + " ".repeat(184), 1, 200);
    }

    private static void sixthDigit() {
        Due.of("III: likewise (a 6th digit)");
        Due.badAgreement("000005 percent late 3;", 1, 5);
        Due.badAgreement("999999 percent late 3;", 1, 5);
        Due.badAgreement(" 00000000 percent late 3;", 1, 6);
        Due.badAgreement("5 percent to 100000, 6 percent late 3;", 1, 18);
        Due.badAgreement("5 percent late 000003;", 1, 20);
        Due.badAgreement("5 percent to 9, 000006 percent late 3;", 1, 21);
        Due.badAgreement("9".repeat(200), 1, 5);
    }

    private static void sixthStep() {
        Due.of("III: a 6th STEP at its first byte");
        String five = "1 percent to 1,2 percent to 2,3 percent to 3,4 percent to 4,5 percent to 5";
        int behind = five.length() + 1;
        Due.badAgreement(five + ",6 percent late 3;", 1, behind);
        Due.badAgreement(five + ", \n6 percent late 3;", 1, behind + 2);
        Due.badAgreement(five + ",101 percent late 3;", 1, behind);
        Due.badAgreement(five + ",1234567 percent late 3;", 1, behind);
        Due.badAgreement(five + ",6 percent to 6,7 percent late 3;", 1, behind);
        Due.badAgreement(five + ",", 1, behind);
        Due.badAgreement(five + " late 3;", 1, behind);
    }

    private static void numberThatCantBe() {
        Due.of("III: 2 a NUMBER that can't be, at its first digit");
        Due.badAgreement("\n 101 percent late 3;", 2, 2);
        Due.badAgreement("00101 percent late 3;", 2, 0);
        Due.badAgreement("5 percent to  00000, 6 percent late 3;", 2, 14);
        Due.badAgreement("5 percent late\n10000;", 2, 15);
        Due.badAgreement("101 percent to 0, 101 percent late 10000;", 2, 0);
        Due.badAgreement("5 percent to 0, 101 percent late 10000;", 2, 13);
        Due.badAgreement("5 percent to 9, 6 percent late 10000;", 2, 31);
    }

    // ---- terms III: shares

    private static void toldFromAPartOn() {
        Due.of("III: PART p has the one told last of those from a PART up to p");
        TaleHouse x = new TaleHouse();
        int[] from = {5, 10, 5, 0, 23, 7};
        for (int number = 0; number < from.length; number++) {
            Due.is("agree(" + from[number] + ")", Due.agree(x, GOOD, from[number]), number);
            for (int part = 0; part < 24; part++) {
                int due = -1;
                for (int told = 0; told <= number; told++) {
                    due = from[told] <= part ? told : due;
                }
                Due.is("agreed(" + part + ") of " + (number + 1), x.agreed(part), due);
            }
        }
    }

    /** A house whose part 0 came in time, and of which so many copies are there to be sold. */
    private static TaleHouse withCopies(String agreement, int price, int copies) {
        TaleHouse x = new TaleHouse();
        Due.is(agreement, Due.agree(x, agreement, 0), 0);
        x.prices(price, 0, 0, 0);
        x.came(0, 0);
        x.print(0, 0, copies);
        return x;
    }

    private static void firstStepWhoseToItDoesNotPass() {
        Due.of("III: of each copy the percent of the first STEP whose to it does not pass");
        TaleHouse x = withCopies("1 percent to 1, 10 percent to 3, 0 percent to 4, 100 percent late 0;", 100, 6);
        Due.is("share(0) of no copy", x.share(0), 0);
        int[] due = {1, 11, 21, 21, 121, 221};
        for (int n = 1; n <= 6; n++) {
            x.sell(0, 0, 1);
            Due.is("share(0) of " + n, x.share(0), due[n - 1]);
        }
        TaleHouse y = withCopies("1 percent to 99999, 100 percent late 0;", 100, 100000);
        y.sell(0, 0, 99999);
        Due.is("share(0) of 99999", y.share(0), 99999);
        y.sell(0, 0, 1);
        Due.is("share(0) of 100000", y.share(0), 99999 + 100);
    }

    private static void lastStepAllOthers() {
        Due.of("III: the last STEP: all others");
        TaleHouse x = withCopies("100 percent late 0;", 10000, 100000);
        for (int i = 1; i < 300; i++) {
            x.print(0, 0, 100000);
        }
        Due.is("sell", x.sell(0, 0, 30000000), 0);
        Due.is("share(0) beyond an int", x.share(0), 300000000000L);
        TaleHouse y = withCopies("0 percent late 0;", 10000, 100000);
        y.sell(0, 0, 100000);
        Due.is("share(0) of nothing a copy", y.share(0), 0);
    }

    private static void soldOfAllEditions() {
        Due.of("III: n copies sold (of all EDITIONS)");
        TaleHouse x = withCopies("1 percent to 2, 10 percent late 0;", 100, 9);
        x.came(1, 0);
        x.print(1, 0, 9);
        x.sell(1, 0, 5);
        for (int edition = 1; edition <= 3; edition++) {
            x.mend(0);
            x.print(0, edition, 1);
            x.sell(0, edition, 1);
        }
        Due.is("share(0) of the later editions", x.share(0), 1 + 1 + 10);
        x.sell(0, 0, 1);
        Due.is("share(0) with the first", x.share(0), 1 + 1 + 10 + 10);
        x.volume(0, 0, 0, 2);
        x.pulp(0, 0);
        Due.is("share(0): volumes and pulp are not sold", x.share(0), 22);
        Due.is("share(1)", x.share(1), 1 + 1 + 30);
    }

    private static void over100Floored() {
        Due.of("III: times the PRICE, added up, over 100, floored");
        TaleHouse x = withCopies("33 percent late 0;", 1, 9);
        int[] due = {0, 0, 0, 1, 1, 1, 2};
        for (int n = 1; n <= 7; n++) {
            x.sell(0, 0, 1);
            Due.is("share(0) of " + n, x.share(0), due[n - 1]);
        }
        Due.yes("prices(0, ..)", x.prices(0, 0, 0, 0));
        Due.is("share(0) at no price", x.share(0), 0);
        TaleHouse y = withCopies("99 percent late 0;", 1, 9);
        y.sell(0, 0, 1);
        Due.is("share(0) of 99 hundredths", y.share(0), 0);
        TaleHouse z = withCopies("100 percent late 0;", 1, 9);
        z.sell(0, 0, 1);
        Due.is("share(0) of 100 hundredths", z.share(0), 1);
    }

    /** Part 0 comes on a day, and one copy is sold for 10000, of which the author gets all. */
    private static TaleHouse cameOn(int day, int late) {
        TaleHouse x = new TaleHouse();
        Due.agree(x, "100 percent late " + late + ";", 0);
        x.start(10);
        x.prices(10000, 0, 0, 0);
        x.came(0, day);
        x.print(0, 0, 1);
        x.sell(0, 0, 1);
        return x;
    }

    private static void lessLateForEachDay() {
        Due.of("III: less late for each day that the PART came behind its DUE day");
        Due.is("ahead of its day", cameOn(9, 7).share(0), 10000);
        Due.is("on its day", cameOn(10, 7).share(0), 10000);
        Due.is("a day late", cameOn(11, 7).share(0), 9993);
        Due.is("a hundred days late", cameOn(110, 7).share(0), 9300);
        Due.is("late for nothing", cameOn(110, 0).share(0), 10000);
        Due.is("a day late, at the most", cameOn(11, 9999).share(0), 1);
        TaleHouse x = new TaleHouse();
        Due.agree(x, GOOD, 0);
        Due.is("share(0) of one that has not come", x.share(0), 0);
        TaleHouse y = withCopies("50 percent late 3;", 1, 9);
        y.sell(0, 0, 1);
        y.came(1, 31);
        y.print(1, 0, 9);
        y.sell(1, 0, 9);
        Due.is("half of nine floored, less a day", y.share(1), 4 - 3);
    }

    private static void zeroAtLeast() {
        Due.of("III: 0 at least");
        Due.is("late for all of it", cameOn(110, 100).share(0), 0);
        Due.is("late for more", cameOn(110, 101).share(0), 0);
        Due.is("two days late at the most", cameOn(12, 9999).share(0), 0);
        Due.is("as late as can be", cameOn(30000, 9999).share(0), 0);
    }

    // ---- terms IV: days

    private static void startFrom0To20000() {
        Due.of("IV: the START day (0 .. 20000; 0 at first)");
        TaleHouse x = new TaleHouse();
        Due.is("due(0) at first", x.due(0), 0);
        Due.each("start", day -> x.start(day) ? 1 : 0, 0, -1, 20001, Due.MIN, Due.MAX);
        Due.is("due(0) still", x.due(0), 0);
        for (int day : new int[] {20000, 1, 0}) {
            Due.yes("start(" + day + ")", x.start(day));
            Due.is("due(0)", x.due(0), day);
            Due.is("due(23)", x.due(23), day + 690);
        }
    }

    private static void thirtyDaysBehindTheOneBefore() {
        Due.of("IV: PART p 30 days behind the one before");
        TaleHouse x = new TaleHouse();
        x.start(5);
        for (int part = 0; part < 24; part++) {
            Due.is("due(" + part + ")", x.due(part), 5 + 30 * part);
        }
        x.came(0, 0);
        Due.is("due(1): one that came early moves nothing", x.due(1), 35);
        x.came(1, 35);
        Due.is("due(2): one that came on its day moves nothing", x.due(2), 65);
    }

    private static void thirtyTimesTheLeastWhole() {
        Due.of("IV: if that one came late by d days, 30 times the least whole not below d / 30 more");
        int[][] due = {{0, 30}, {1, 60}, {29, 60}, {30, 60}, {31, 90}, {60, 90}, {61, 120}, {30000, 30030}};
        for (int[] d : due) {
            TaleHouse x = new TaleHouse();
            Due.is("came(0, " + d[0] + ")", x.came(0, d[0]), d[0]);
            Due.is("due(0)", x.due(0), 0);
            Due.is("due(1) behind " + d[0] + " days", x.due(1), d[1]);
            Due.is("due(2) behind " + d[0] + " days", x.due(2), d[1] + 30);
        }
        TaleHouse y = new TaleHouse();
        y.came(0, 1);
        Due.is("came(1, 61)", y.came(1, 61), 1);
        Due.is("due(2): both were late", y.due(2), 120);
        TaleHouse z = new TaleHouse();
        z.start(20000);
        for (int part = 0; part < 24; part++) {
            z.came(part, 30000);
        }
        Due.is("due(1) at the latest", z.due(1), 20000 + 30 + 30 * 334);
        Due.is("due(23) at the latest", z.due(23), 30050 + 22 * 30);
    }

    private static void comesOnce() {
        Due.of("IV: A PART comes on a day, once");
        TaleHouse x = new TaleHouse();
        Due.is("came(0, 31)", x.came(0, 31), 31);
        Due.each("came(0, day) again", day -> x.came(0, day), -1, 0, 31, 32, 30000);
        Due.is("due(1)", x.due(1), 90);
        Due.is("came(1, 31)", x.came(1, 31), 0);
        Due.each("came(0, day) again", day -> x.came(0, day), -1, 0, 31, 32, 30000);
    }

    // ---- promises 19 to 21

    private static void theTapeGoes() {
        Due.of("19: The tape (it goes) is an AGREEMENT");
        TaleHouse x = new TaleHouse();
        Due.is("told", Due.agree(x, GOOD, 0), 0);
        Due.no("end(1)", x.end(1));
        Due.is("with a fault", Due.agree(x, "5 percent", 0), -1);
        Due.no("end(1)", x.end(1));
        Due.is("of no part", Due.agree(x, GOOD, 24), -2);
        Due.no("end(1)", x.end(1));
        for (int i = 1; i < 12; i++) {
            Due.agree(x, GOOD, 0);
        }
        Due.is("a 13th", Due.agree(x, GOOD, 0), -2);
        Due.no("end(1)", x.end(1));
        Due.is("of an empty tape", x.agree(0), -1);
        Due.is("fault(1) of an empty tape", x.fault(1), 0);
    }

    private static void agreeWithAFault() {
        Due.of("19: -1 with a FAULT");
        TaleHouse x = withCopies(GOOD, 100, 10);
        x.sell(0, 0, 10);
        Due.is("a fault behind good steps", Due.agree(x, "99 percent to 5, 98 percent late 10000;", 0), -1);
        Due.is("a fault, of no part", Due.agree(x, "99 percent;", 24), -1);
        Due.is("agreed(0)", x.agreed(0), 0);
        Due.is("share(0) is as it was", x.share(0), 50);
        Due.is("agreement 1", Due.agree(x, "6 percent late 0;", 0), 1);
        Due.is("share(0)", x.share(0), 60);
    }

    private static void agreeNoSuchPart() {
        Due.of("19: -2 there is no such PART");
        TaleHouse x = new TaleHouse();
        Due.each("agree", part -> Due.agree(x, GOOD, part), -2, -1, 24, Due.MIN, Due.MAX);
        Due.is("fault(0)", x.fault(0), 0);
        Due.is("agreed(23)", x.agreed(23), -1);
        Due.is("agree(23)", Due.agree(x, GOOD, 23), 0);
        Due.is("agree(0)", Due.agree(x, GOOD, 0), 1);
    }

    private static void agreeOf13() {
        Due.of("19: -2 there are 12");
        TaleHouse x = new TaleHouse();
        for (int number = 0; number < 12; number++) {
            Due.is("agreement " + number, Due.agree(x, GOOD, 12 - number), number);
        }
        Due.each("one more", part -> Due.agree(x, "6 percent late 0;", part), -2, 0, 23);
        Due.is("fault(0)", x.fault(0), 0);
        Due.is("one more with a fault", Due.agree(x, "6 percent", 0), -1);
        Due.is("agreed(0)", x.agreed(0), -1);
        Due.is("agreed(1)", x.agreed(1), 11);
        Due.is("agreed(23)", x.agreed(23), 11);
    }

    private static void agreedNone() {
        Due.of("20: NONE without, or if there is none such");
        TaleHouse x = new TaleHouse();
        Due.each("agreed without", x::agreed, -1, 0, 23, -1, 24);
        Due.agree(x, GOOD, 1);
        Due.each("agreed", x::agreed, -1, 0, -1, 24, Due.MIN, Due.MAX);
        Due.each("agreed", x::agreed, 0, 1, 2, 23);
    }

    private static void shareNone() {
        Due.of("21: NONE without an AGREEMENT, or if there is none such");
        TaleHouse x = new TaleHouse();
        x.came(0, 0);
        x.print(0, 0, 10);
        x.sell(0, 0, 10);
        Due.each("share without", x::share, -1, 0, 23, -1, 24);
        Due.agree(x, GOOD, 1);
        Due.each("share", x::share, -1, 0, -1, 24, Due.MIN, Due.MAX);
        Due.each("share", x::share, 0, 1, 2, 23);
    }

    // ---- promises 22 to 24

    private static void startFalse() {
        Due.of("22: false if it can't be, or a PART has come");
        TaleHouse x = new TaleHouse();
        x.start(40);
        Due.each("start", day -> x.start(day) ? 1 : 0, 0, -1, 20001, Due.MIN, Due.MAX);
        x.came(1, 50);
        Due.yes("start(41): a refused part has not come", x.start(41));
        x.came(0, 50);
        Due.each("start", day -> x.start(day) ? 1 : 0, 0, 0, 40, 41, 20000);
        Due.is("due(0)", x.due(0), 41);
        Due.is("due(1)", x.due(1), 41 + 60);
    }

    private static void cameHowManyDaysLate() {
        Due.of("23: how many days late (0: it is not)");
        int[][] due = {{0, 0}, {99, 0}, {100, 0}, {101, 1}, {30000, 29900}};
        for (int[] d : due) {
            TaleHouse x = new TaleHouse();
            x.start(100);
            Due.is("came(0, " + d[0] + ")", x.came(0, d[0]), d[1]);
        }
    }

    private static void cameNoSuchPart() {
        Due.of("23: NONE if there is no such PART");
        TaleHouse x = new TaleHouse();
        Due.each("came(part, 0)", part -> x.came(part, 0), -1, -1, 24, Due.MIN, Due.MAX);
        for (int part = 0; part < 24; part++) {
            Due.is("came(" + part + ", 30000)", x.came(part, 30000), part == 0 ? 30000 : 0);
        }
        Due.each("came(part, 30000) behind all", part -> x.came(part, 30000), -1, -1, 0, 23, 24, 25, Due.MAX);
    }

    private static void cameNoSuchDay() {
        Due.of("23: NONE if there is no such day (0 .. 30000)");
        TaleHouse x = new TaleHouse();
        Due.each("came(0, day)", day -> x.came(0, day), -1, -1, 30001, Due.MIN, Due.MAX);
        Due.is("print(0, 0, 1): it has not come", x.print(0, 0, 1), -1);
        Due.is("came(0, 0)", x.came(0, 0), 0);
        Due.is("came(1, 30001)", x.came(1, 30001), -1);
        Due.is("came(1, 30000)", x.came(1, 30000), 29970);
    }

    private static void cameAlready() {
        Due.of("23: NONE if it has come");
        TaleHouse x = new TaleHouse();
        x.came(0, 5);
        x.came(1, 50);
        Due.each("came(part, 60)", part -> x.came(part, 60), -1, 0, 1);
        Due.is("due(2) is as it was", x.due(2), 90);
    }

    private static void cameAheadOfTheOneBefore() {
        Due.of("23: NONE if the one before has not, or came later");
        TaleHouse x = new TaleHouse();
        Due.each("came(part, 5)", part -> x.came(part, 5), -1, 1, 2, 23);
        x.came(0, 5);
        Due.each("came(part, 5)", part -> x.came(part, 5), -1, 2, 3, 23);
        Due.each("came(1, day)", day -> x.came(1, day), -1, 0, 4);
        Due.is("print(1, 0, 1): it has not come", x.print(1, 0, 1), -1);
        Due.is("came(1, 5): on one day", x.came(1, 5), 0);
        Due.is("print(1, 0, 1)", x.print(1, 0, 1), 502);
    }

    private static void dueAsIfInTime() {
        Due.of("24: of PARTS that have not come: as if they came in time");
        TaleHouse x = new TaleHouse();
        x.came(0, 45);
        int[] due = {0, 90, 120, 150};
        for (int part = 0; part < due.length; part++) {
            Due.is("due(" + part + ")", x.due(part), due[part]);
        }
        Due.is("due(23)", x.due(23), 90 + 22 * 30);
        x.came(1, 80);
        Due.is("due(2) behind one that came early", x.due(2), 120);
    }

    private static void dueNone() {
        Due.of("24: NONE if there is none such");
        TaleHouse x = new TaleHouse();
        Due.each("due", x::due, -1, -1, 24, Due.MIN, Due.MAX);
        x.start(9);
        Due.each("due", x::due, -1, -1, 24, Due.MIN, Due.MAX);
    }
}
