/** Each sentence that names a boundary case in terms II and in promises 12 to 18. */
public final class FactsBoundsTest {
    private static final String GOOD = "eva born 3;";

    public static void main(String[] args) {
        termsOfParts();
        termsOfTexts();
        termsOfFaults();
        termsOfQuarrels();
        promisesOfFacts();
        promisesOfQuarrels();
        Due.finish();
    }

    private static void termsOfParts() {
        partsFrom0To23();
        editionsFrom0To3();
        sixtyFactsAtMost();
        toldInAllLaterEditions();
        untilTheyAreStruck();
    }

    private static void termsOfTexts() {
        threeForms();
        blanksAre10And32();
        blanksWhereOneLikes();
        twoWordsNeedABlank();
        twoNumbersNeedABlank();
        signBelongsToIt();
        namesOf1To10Letters();
        lettersFromAToZ();
        noneOfFourWords();
        daysOf1To5Digits();
    }

    private static void termsOfFaults() {
        firstByteWithWhichNoFactGoesOn();
        wordsAndNumbersWhole();
        endsTooSoon();
        eleventhLetter();
        sixthDigit();
    }

    private static void termsOfQuarrels() {
        ofOnePerson();
        bornOrDeadOnUnlikeDays();
        inUnlikePlacesOnOneDay();
        inAPlaceAheadOrBehind();
        deadAheadOfBeingBorn();
    }

    private static void promisesOfFacts() {
        theTapeGoes();
        factWithAFault();
        factNoSuchPartOrEdition();
        factOf61();
        faultAheadOfAny();
        faultWithout();
        faultOfTheLatest();
        faultOfAnotherWhat();
        strikeNoneSuch();
        strikeOneThatIs();
        strikeNoEdition();
        strikeNotBehind();
        mendNone();
    }

    private static void promisesOfQuarrels() {
        quarrelAsTheyAre();
        quarrelNoSuchTwo();
        quarrelsByTheLesser();
        quarrelsInTheLastEdition();
        quarrelsNone();
        foundNoneSuch();
    }

    // ---- terms II: parts and editions

    private static void partsFrom0To23() {
        Due.of("II: PARTS 0 .. 23");
        TaleHouse x = new TaleHouse();
        for (int part = 0; part < 24; part++) {
            Due.is("fact(" + part + ", 0)", Due.tell(x, GOOD, part, 0), part);
            Due.is("mend(" + part + ")", x.mend(part), 1);
        }
        Due.each("fact(part, 0)", part -> Due.tell(x, GOOD, part, 0), -2, -1, 24, Due.MIN, Due.MAX);
    }

    private static void editionsFrom0To3() {
        Due.of("II: PARTS have EDITIONS, 0 at first, up to 3");
        TaleHouse x = new TaleHouse();
        for (int last = 0; last <= 3; last++) {
            for (int edition = 0; edition <= 4; edition++) {
                Due.is("stock(7, " + edition + ", 0) of " + last, x.stock(7, edition, 0), edition <= last ? 0 : -1);
            }
            Due.is("stock(7, -1, 0) of " + last, x.stock(7, -1, 0), -1);
            Due.is("mend(7) of " + last, x.mend(7), last < 3 ? last + 1 : -1);
        }
        Due.is("stock(7, 4, 0)", x.stock(7, 4, 0), -1);
        Due.is("stock(6, 1, 0): another part has none more", x.stock(6, 1, 0), -1);
        Due.is("stock(8, 1, 0): another part has none more", x.stock(8, 1, 0), -1);
    }

    private static void sixtyFactsAtMost() {
        Due.of("II: FACTS, numbered from 0 on (60 at most)");
        TaleHouse x = new TaleHouse();
        for (int i = 0; i < 60; i++) {
            Due.is("fact " + i, Due.tell(x, "eva born " + i + ";", 0, 0), i);
        }
        Due.is("fact 60", Due.tell(x, "eva born 60;", 0, 0), -2);
        Due.is("quarrel(59, 0)", x.quarrel(59, 0), 1);
        Due.is("quarrel(60, 0)", x.quarrel(60, 0), -1);
        Due.is("quarrels(0) of all pairs", x.quarrels(0), 60 * 59 / 2);
        Due.is("found(1769, 0)", x.found(1769, 0), 58);
        Due.is("found(1769, 1)", x.found(1769, 1), 59);
    }

    /** Editions in which fact 1, told and struck so, stands: it quarrels with fact 0, which always stands. */
    private static void stands(TaleHouse x, boolean... due) {
        for (int e = 0; e < 4; e++) {
            Due.is("quarrels(" + e + ")", x.quarrels(e), due[e] ? 1 : 0);
        }
    }

    private static TaleHouse toldIn(int edition) {
        TaleHouse x = new TaleHouse();
        for (int e = 1; e <= 3; e++) {
            x.mend(1);
        }
        Due.tell(x, GOOD, 0, 0);
        Due.is("fact(1, " + edition + ")", Due.tell(x, "eva born 4;", 1, edition), 1);
        return x;
    }

    private static void toldInAllLaterEditions() {
        Due.of("II: are told in an EDITION of a PART, and in all later ones");
        stands(toldIn(0), true, true, true, true);
        stands(toldIn(1), false, true, true, true);
        stands(toldIn(2), false, false, true, true);
        stands(toldIn(3), false, false, false, true);
    }

    private static void untilTheyAreStruck() {
        Due.of("II: until they are STRUCK from an EDITION on");
        TaleHouse x = toldIn(0);
        Due.yes("strike(1, 1)", x.strike(1, 1));
        stands(x, true, false, false, false);
        TaleHouse y = toldIn(1);
        Due.yes("strike(1, 3)", y.strike(1, 3));
        stands(y, false, true, true, false);
        TaleHouse z = toldIn(1);
        Due.yes("strike(1, 2)", z.strike(1, 2));
        stands(z, false, true, false, false);
    }

    // ---- terms II: texts

    private static void threeForms() {
        Due.of("II: NAME born DAY ; NAME dead DAY ; NAME in NAME on DAY ;");
        Due.goodFact("eva born 3;");
        Due.goodFact("eva dead 3;");
        Due.goodFact("eva in rome on 3;");
        Due.badFact("eva on rome in 3;", 4);
        Due.badFact("eva born rome on 3;", 9);
        Due.badFact("eva born on 3;", 9);
        Due.badFact("eva in rome born 3;", 12);
        Due.badFact("eva on 3;", 4);
        Due.badFact("eva in 3;", 7);
        Due.badFact("eva percent 3;", 4);
    }

    /** Every byte between two words: a letter joins them, a blank parts them, any other is wrong. */
    private static void blanksAre10And32() {
        Due.of("II: with blanks (10, 32)");
        for (int c = 0; c < 256; c++) {
            String text = "eva" + (char) c + "born 3;";
            if (c == 10 || c == 32) {
                Due.goodFact(text);
            } else {
                Due.badFact(text, c >= 'a' && c <= 'z' ? 9 : 3);
            }
        }
    }

    private static void blanksWhereOneLikes() {
        Due.of("II: between where one likes");
        Due.goodFact("eva born3;");
        Due.goodFact("eva in rome on3;");
        Due.goodFact("eva born 3 ;");
        Due.goodFact("eva  \n\n born \n3\n \n;");
        Due.goodFact("eva\nin\nrome\non\n3\n;");
        Due.goodFact("eva born" + " ".repeat(190) + "3;");
    }

    private static void twoWordsNeedABlank() {
        Due.of("II: two words side by side need one");
        Due.badFact("evaborn 3;", 8);
        Due.badFact("eva inrome on 3;", 4);
        Due.badFact("eva in romeon 3;", 14);
        Due.badFact("evain rome on 3;", 6);
    }

    private static void twoNumbersNeedABlank() {
        Due.of("II: two numbers side by side need one");
        Due.badFact("eva born 3 4;", 11);
        Due.badFact("eva born 3\n4;", 11);
        Due.goodFact("eva born 34;");
    }

    private static void signBelongsToIt() {
        Due.of("II: the ; belongs to it");
        Due.badFact("eva born 3", 10);
        Due.badFact("eva dead 3 ", 11);
        Due.badFact("eva in rome on 3", 16);
        Due.badFact("eva born 3,", 10);
        Due.badFact("eva born 3:", 10);
        Due.badFact("eva; born 3;", 3);
        Due.badFact("eva born; 3;", 8);
    }

    private static void namesOf1To10Letters() {
        Due.of("II: NAMES: 1 to 10 letters");
        for (int length = 1; length <= 10; length++) {
            String name = "z".repeat(length);
            Due.goodFact(name + " born 3;");
            Due.goodFact("eva in " + name + " on 3;");
        }
        Due.badFact(" born 3;", 1);
        Due.badFact("eva in on 3;", 7);
        Due.badFact("z".repeat(11) + " born 3;", 10);
        Due.badFact("eva in " + "z".repeat(11) + " on 3;", 17);
    }

    private static void lettersFromAToZ() {
        Due.of("II: letters a .. z");
        Due.goodFact("abcdefghij in klmnopqrst on 3;");
        Due.goodFact("uvwxyz born 3;");
        for (char c : new char[] {'a' - 1, 'z' + 1, 'A', 'Z', '0', '9', '-', '_', '\'', 0, 9, 13, 127, 128, 224, 255}) {
            Due.badFact(c + "va born 3;", 0);
            Due.badFact("ev" + c + " born 3;", 2);
            Due.badFact("eva in " + c + " on 3;", 7);
        }
    }

    private static void noneOfFourWords() {
        Due.of("II: NAMES: none of born, dead, in, on");
        for (String word : new String[] {"born", "dead", "in", "on"}) {
            Due.badFact(word + " born 3;", 0);
            Due.badFact(" " + word + " dead 3;", 1);
            Due.badFact(word + " in rome on 3;", 0);
            Due.badFact("eva in " + word + " on 3;", 7);
        }
        for (String near : new String[] {
            "bor", "borns", "aborn", "nrob", "dea", "deads", "dread", "i", "inn", "ni", "o", "onn", "no", "late", "to",
            "percent",
        }) {
            Due.goodFact(near + " born 3;");
            Due.goodFact("eva in " + near + " on 3;");
        }
    }

    private static void daysOf1To5Digits() {
        Due.of("II: DAYS: 1 to 5 digits");
        for (String day : new String[] {"0", "9", "00", "10", "099", "1234", "00000", "00001", "99999"}) {
            Due.goodFact("eva born " + day + ";");
            Due.goodFact("eva in rome on " + day + ";");
        }
        Due.badFact("eva dead ;", 9);
        Due.badFact("eva dead 100000;", 14);
        for (char c : new char[] {'0' - 1, '9' + 1, '-', '+', '.', 'a', 'A', 128, 255}) {
            Due.badFact("eva born " + c + ";", 9);
            Due.badFact("eva born 3" + c + ";", 10);
        }
    }

    // ---- terms II: faults

    private static void firstByteWithWhichNoFactGoesOn() {
        Due.of("II: FAULTS: 1 the first byte with which no FACT goes on");
        Due.badFact("!", 0);
        Due.badFact(";", 0);
        Due.badFact("eva;", 3);
        Due.badFact("eva born 3;;", 11);
        Due.badFact("eva born 3; \n;", 13);
        Due.badFact("eva born 3; tom born 4;", 12);
        Due.badFact("eva born 3;0", 11);
        Due.badFact("eva ! born ! 3", 4);
        Due.badFact("!" + " ".repeat(198) + "!", 0);
        Due.badFact("eva born 3;" + " ".repeat(188) + "!", 199);
    }

    private static void wordsAndNumbersWhole() {
        Due.of("II: words and numbers whole, at their first byte");
        Due.badFact("eva bornx 3;", 4);
        Due.badFact("eva bor 3;", 4);
        Due.badFact("eva deadly 3;", 4);
        Due.badFact("eva i rome on 3;", 4);
        Due.badFact("eva inn rome on 3;", 4);
        Due.badFact("eva in rome o 3;", 12);
        Due.badFact("eva in rome onn 3;", 12);
        Due.badFact("eva 12345 born 3;", 4);
        Due.badFact("12345 born 3;", 0);
        Due.badFact("eva born three;", 9);
        Due.badFact("eva born 3 tom;", 11);
    }

    private static void endsTooSoon() {
        Due.of("II: at the text's length, if it ends too soon");
        String[] parts = {"", "eva", "eva in", "eva in rome", "eva in rome on", "eva in rome on 20", "tom born", "tom dead 7"};
        for (String part : parts) {
            Due.badFact(part, part.length());
            Due.badFact(part + " ", part.length() + 1);
            Due.badFact(part + "\n \n", part.length() + 3);
        }
        Due.badFact(" ".repeat(200), 200);
        Due.badFact("eva born" + " ".repeat(192), 200);
        Due.badFact(" ".repeat(197) + "eva", 200);
    }

    private static void eleventhLetter() {
        Due.of("II: an 11th letter at itself");
        Due.badFact("abcdefghijk", 10);
        Due.badFact("  abcdefghijk born 3;", 12);
        Due.badFact("abcdefghijklmnopqrstuvwxyz born 3;", 10);
        Due.badFact("eva in abcdefghijk", 17);
        Due.badFact("eva in \nabcdefghijklm on 3;", 18);
        Due.badFact("z".repeat(200), 10);
        Due.badFact(" ".repeat(189) + "abcdefghijk", 199);
        Due.badFact(" ".repeat(190) + "abcdefghij", 200);
    }

    private static void sixthDigit() {
        Due.of("II: a 6th digit at itself");
        Due.badFact("eva born 123456;", 14);
        Due.badFact("eva born 000000;", 14);
        Due.badFact("eva dead 00000000001;", 14);
        Due.badFact("eva in rome on\n\n123456", 21);
        Due.badFact("eva born " + "9".repeat(191), 14);
    }

    // ---- terms II: quarrels

    private static void quarrelIs(String a, String b, int due) {
        TaleHouse x = new TaleHouse();
        Due.is(a, Due.tell(x, a, 0, 0), 0);
        Due.is(b, Due.tell(x, b, 23, 0), 1);
        Due.is(a + " against " + b, x.quarrel(0, 1), due);
        Due.is(b + " against " + a, x.quarrel(1, 0), due);
        Due.is("quarrels(0) of " + a + " and " + b, x.quarrels(0), due == 0 ? 0 : 1);
    }

    private static void ofOnePerson() {
        Due.of("II: Two FACTS of one person (the first NAME) QUARREL");
        quarrelIs("eva born 3;", "tom born 4;", 0);
        quarrelIs("eva born 9;", "tom dead 4;", 0);
        quarrelIs("eva in rome on 3;", "tom in bath on 3;", 0);
        quarrelIs("eva in tom on 3;", "tom in eva on 3;", 0);
        quarrelIs("tom born 9;", "eva in tom on 3;", 0);
        quarrelIs("abcdefghij born 3;", "abcdefghi born 4;", 0);
        quarrelIs("abcdefghij born 3;", "abcdefghik born 4;", 0);
        quarrelIs("a born 3;", "aa born 4;", 0);
        quarrelIs("zzzzzzzzzz born 3;", "azzzzzzzzz born 4;", 0);
        quarrelIs("zzzzzzzzzz born 3;", "zzzzzzzzzz born 4;", 1);
        quarrelIs("a born 3;", "a born 4;", 1);
        String[] names = {
            "a", "b", "y", "z", "aa", "ab", "ba", "bb", "az", "za", "zz", "yz", "zy", "aab", "aba", "baa", "abb", "zzz",
            "azz", "zaz", "zza", "abc", "acb", "bac", "bca", "cab", "cba", "aaaaaaaaaa", "baaaaaaaaa", "aaaaaaaaab",
            "zzzzzzzzzy", "yzzzzzzzzz", "zzzzzzzzzz", "abcdefghij", "jihgfedcba",
        };
        TaleHouse persons = new TaleHouse();
        TaleHouse places = new TaleHouse();
        for (int i = 0; i < names.length; i++) {
            Due.tell(persons, names[i] + " born " + i + ";", 0, 0);
            Due.tell(places, "eva in " + names[i] + " on 7;", 0, 0);
        }
        Due.is("quarrels(0) of unlike persons", persons.quarrels(0), 0);
        Due.is("quarrels(0) of unlike places", places.quarrels(0), names.length * (names.length - 1) / 2);
    }

    private static void bornOrDeadOnUnlikeDays() {
        Due.of("II: 1 both born, or both dead, on unlike DAYS");
        for (String what : new String[] {"born", "dead"}) {
            quarrelIs("eva " + what + " 3;", "eva " + what + " 3;", 0);
            quarrelIs("eva " + what + " 3;", "eva " + what + " 4;", 1);
            quarrelIs("eva " + what + " 0;", "eva " + what + " 99999;", 1);
            quarrelIs("eva " + what + " 3;", "eva " + what + " 00003;", 0);
            quarrelIs("eva " + what + " 3;", "eva " + what + " 30;", 1);
        }
    }

    private static void inUnlikePlacesOnOneDay() {
        Due.of("II: 2 both in unlike places on one DAY");
        quarrelIs("eva in rome on 3;", "eva in bath on 3;", 2);
        quarrelIs("eva in rome on 3;", "eva in rome on 3;", 0);
        quarrelIs("eva in rome on 3;", "eva in bath on 4;", 0);
        quarrelIs("eva in rome on 3;", "eva in rome on 4;", 0);
        quarrelIs("eva in rome on 3;", "eva in bath on 003;", 2);
        quarrelIs("eva in abcdefghij on 0;", "eva in abcdefghik on 00000;", 2);
        quarrelIs("eva in abcdefghij on 99999;", "eva in abcdefghi on 99999;", 2);
    }

    private static void inAPlaceAheadOrBehind() {
        Due.of("II: 3 in a place ahead of being born, or behind being dead (the DAY itself may be)");
        quarrelIs("eva born 10;", "eva in rome on 9;", 3);
        quarrelIs("eva born 10;", "eva in rome on 10;", 0);
        quarrelIs("eva born 10;", "eva in rome on 11;", 0);
        quarrelIs("eva dead 10;", "eva in rome on 9;", 0);
        quarrelIs("eva dead 10;", "eva in rome on 10;", 0);
        quarrelIs("eva dead 10;", "eva in rome on 11;", 3);
        quarrelIs("eva born 99999;", "eva in rome on 0;", 3);
        quarrelIs("eva dead 0;", "eva in rome on 99999;", 3);
        quarrelIs("eva born 0;", "eva in rome on 0;", 0);
        quarrelIs("eva dead 99999;", "eva in rome on 99999;", 0);
    }

    private static void deadAheadOfBeingBorn() {
        Due.of("II: 4 dead ahead of being born");
        quarrelIs("eva born 10;", "eva dead 9;", 4);
        quarrelIs("eva born 10;", "eva dead 10;", 0);
        quarrelIs("eva born 10;", "eva dead 11;", 0);
        quarrelIs("eva born 99999;", "eva dead 0;", 4);
        quarrelIs("eva born 0;", "eva dead 99999;", 0);
    }

    // ---- promises 12 to 14, and 18

    private static void tapeIsEmpty(TaleHouse x) {
        Due.no("the tape went: end(1)", x.end(1));
        Due.is("the tape went: feed", x.feed(0x20202020, 0x20202020, 0x20202020, 0x20202020, 0x20202020), 20);
        Due.yes("end(0)", x.end(0));
    }

    private static void theTapeGoes() {
        Due.of("12: The tape (it goes) is a FACT");
        TaleHouse x = new TaleHouse();
        Due.is("told", Due.tell(x, GOOD, 0, 0), 0);
        tapeIsEmpty(x);
        Due.is("with a fault", Due.tell(x, "eva born", 0, 0), -1);
        tapeIsEmpty(x);
        Due.is("of no part", Due.tell(x, GOOD, 24, 0), -2);
        tapeIsEmpty(x);
        Due.is("of no edition", Due.tell(x, GOOD, 0, 1), -2);
        tapeIsEmpty(x);
        for (int i = 1; i < 60; i++) {
            Due.tell(x, GOOD, 0, 0);
        }
        Due.is("a 61st", Due.tell(x, GOOD, 0, 0), -2);
        tapeIsEmpty(x);
        Due.is("of an empty tape", x.fact(0, 0), -1);
        Due.is("fault(1) of an empty tape", x.fault(1), 0);
    }

    private static void factWithAFault() {
        Due.of("12: -1 with a FAULT");
        TaleHouse x = new TaleHouse();
        Due.is("fact 0", Due.tell(x, GOOD, 0, 0), 0);
        Due.is("a fault", Due.tell(x, "eva born;", 0, 0), -1);
        Due.is("a fault, of no part", Due.tell(x, "eva born;", 24, 0), -1);
        Due.is("a fault, of no edition", Due.tell(x, "eva born;", 0, 1), -1);
        Due.is("fact 1", Due.tell(x, "eva born 4;", 0, 0), 1);
        Due.is("quarrel(0, 1)", x.quarrel(0, 1), 1);
        Due.is("quarrel(0, 2)", x.quarrel(0, 2), -1);
    }

    private static void factNoSuchPartOrEdition() {
        Due.of("12: -2 there is no such PART, EDITION");
        TaleHouse x = new TaleHouse();
        x.mend(5);
        Due.each("fact(part, 0)", part -> Due.tell(x, GOOD, part, 0), -2, -1, 24, Due.MIN, Due.MAX);
        Due.each("fact(5, edition)", edition -> Due.tell(x, GOOD, 5, edition), -2, -1, 2, 4, Due.MIN, Due.MAX);
        Due.each("fact(4, edition)", edition -> Due.tell(x, GOOD, 4, edition), -2, -1, 1, 3);
        Due.is("fact(5, 1)", Due.tell(x, GOOD, 5, 1), 0);
        Due.is("fact(23, 0)", Due.tell(x, GOOD, 23, 0), 1);
    }

    private static void factOf61() {
        Due.of("12: -2 there are 60");
        TaleHouse x = new TaleHouse();
        for (int i = 0; i < 60; i++) {
            Due.tell(x, GOOD, 23, 0);
        }
        Due.is("fact 60", Due.tell(x, "eva born 4;", 0, 0), -2);
        Due.is("fault(0)", x.fault(0), 0);
        Due.is("fault(1)", x.fault(1), -1);
        Due.is("with a fault", Due.tell(x, "eva born x;", 0, 0), -1);
        Due.is("fault(1)", x.fault(1), 9);
        Due.is("quarrels(0): the others are as they were", x.quarrels(0), 0);
    }

    private static void faultAheadOfAny() {
        Due.of("13: its FAULT: 0 ahead of any; its place: NONE without");
        TaleHouse x = new TaleHouse();
        Due.is("fault(0)", x.fault(0), 0);
        Due.is("fault(1)", x.fault(1), -1);
        Due.type(x, "eva !");
        Due.is("fault(0) of a tape not read yet", x.fault(0), 0);
        Due.is("fault(1) of a tape not read yet", x.fault(1), -1);
    }

    private static void faultWithout() {
        Due.of("13: its FAULT: 0 without; its place: NONE without");
        TaleHouse x = new TaleHouse();
        Due.tell(x, "eva !", 0, 0);
        Due.is("told", Due.tell(x, GOOD, 0, 0), 0);
        Due.is("fault(0)", x.fault(0), 0);
        Due.is("fault(1)", x.fault(1), -1);
        Due.tell(x, "eva !", 0, 0);
        Due.is("of no part", Due.tell(x, GOOD, 24, 0), -2);
        Due.is("fault(0)", x.fault(0), 0);
        Due.is("fault(1)", x.fault(1), -1);
    }

    private static void faultOfTheLatest() {
        Due.of("13: Of the latest fact(), agree()");
        TaleHouse x = new TaleHouse();
        Due.agree(x, " 101 percent late 3;", 0);
        Due.is("fault(0) of agree", x.fault(0), 2);
        Due.is("fault(1) of agree", x.fault(1), 1);
        Due.tell(x, "eva !", 0, 0);
        Due.is("fault(0) of fact", x.fault(0), 1);
        Due.is("fault(1) of fact", x.fault(1), 4);
        x.feed(0, 0, 0, 0, 0);
        x.end(0);
        x.quarrels(0);
        Due.is("fault(1) stays", x.fault(1), 4);
        Due.agree(x, "10 percent late 3;", 0);
        Due.is("fault(0) of agree", x.fault(0), 0);
    }

    private static void faultOfAnotherWhat() {
        Due.of("13: NONE for another what");
        TaleHouse x = new TaleHouse();
        Due.each("fault ahead of any", x::fault, -1, -1, 2, 3, Due.MIN, Due.MAX);
        Due.tell(x, "eva !", 0, 0);
        Due.each("fault", x::fault, -1, -1, 2, 3, Due.MIN, Due.MAX);
    }

    private static void strikeNoneSuch() {
        Due.of("14: false if there is none such");
        TaleHouse x = new TaleHouse();
        x.mend(0);
        Due.each("strike(fact, 1) of none", fact -> x.strike(fact, 1) ? 1 : 0, 0, -1, 0, 1, Due.MIN, Due.MAX);
        Due.tell(x, GOOD, 0, 0);
        Due.each("strike(fact, 1) of one", fact -> x.strike(fact, 1) ? 1 : 0, 0, -1, 1, 59, 60, Due.MIN, Due.MAX);
        Due.yes("strike(0, 1)", x.strike(0, 1));
    }

    private static void strikeOneThatIs() {
        Due.of("14: false if it is");
        TaleHouse x = toldIn(0);
        Due.yes("strike(1, 2)", x.strike(1, 2));
        Due.each("strike(1, edition) again", edition -> x.strike(1, edition) ? 1 : 0, 0, 1, 2, 3);
        stands(x, true, true, false, false);
    }

    private static void strikeNoEdition() {
        Due.of("14: false if the EDITION is none");
        TaleHouse x = new TaleHouse();
        Due.tell(x, GOOD, 1, 0);
        x.mend(0);
        x.mend(2);
        Due.each("strike(0, e)", e -> x.strike(0, e) ? 1 : 0, 0, -1, 1, 2, 3, 4, Due.MIN, Due.MAX);
        Due.is("mend(1)", x.mend(1), 1);
        Due.no("strike(0, 2)", x.strike(0, 2));
        Due.yes("strike(0, 1)", x.strike(0, 1));
        TaleHouse y = toldIn(0);
        Due.no("strike(1, 4)", y.strike(1, 4));
        Due.yes("strike(1, 3)", y.strike(1, 3));
    }

    private static void strikeNotBehind() {
        Due.of("14: false if the EDITION is not behind that in which it was told");
        for (int told = 0; told <= 3; told++) {
            for (int from = 0; from <= 3; from++) {
                TaleHouse x = toldIn(told);
                Due.is("strike(1, " + from + ") told in " + told, x.strike(1, from) ? 1 : 0, from > told ? 1 : 0);
            }
        }
    }

    private static void mendNone() {
        Due.of("18: NONE if there is no such PART, or it has 3 already");
        TaleHouse x = new TaleHouse();
        Due.each("mend", x::mend, -1, -1, 24, Due.MIN, Due.MAX);
        for (int part : new int[] {0, 23}) {
            for (int edition = 1; edition <= 3; edition++) {
                Due.is("mend(" + part + ")", x.mend(part), edition);
            }
            Due.is("mend(" + part + ")", x.mend(part), -1);
            Due.is("stock(" + part + ", 3, 0)", x.stock(part, 3, 0), 0);
            Due.is("stock(" + part + ", 4, 0)", x.stock(part, 4, 0), -1);
        }
    }

    // ---- promises 15 to 17

    private static void quarrelAsTheyAre() {
        Due.of("15: How two FACTS QUARREL, as they are");
        TaleHouse x = toldIn(3);
        Due.is("quarrel(0, 1): they are in no edition together yet", x.quarrel(0, 1), 1);
        TaleHouse y = toldIn(0);
        y.strike(1, 1);
        Due.is("quarrel(0, 1) of one that is struck", y.quarrel(0, 1), 1);
        Due.is("quarrels(3)", y.quarrels(3), 0);
    }

    private static void quarrelNoSuchTwo() {
        Due.of("15: NONE if there are no such two");
        TaleHouse x = new TaleHouse();
        Due.is("quarrel(0, 1) of none", x.quarrel(0, 1), -1);
        Due.tell(x, GOOD, 0, 0);
        Due.is("quarrel(0, 1) of one", x.quarrel(0, 1), -1);
        Due.is("quarrel(1, 0) of one", x.quarrel(1, 0), -1);
        Due.tell(x, "eva born 4;", 0, 0);
        Due.each("quarrel(0, b)", b -> x.quarrel(0, b), -1, -1, 2, 59, 60, Due.MIN, Due.MAX);
        Due.each("quarrel(a, 1)", a -> x.quarrel(a, 1), -1, -1, 2, 59, 60, Due.MIN, Due.MAX);
        Due.each("quarrel(a, a): it is but one", a -> x.quarrel(a, a), -1, -1, 0, 1, 2);
    }

    private static void founds(TaleHouse x, int[][] pairs) {
        for (int k = 0; k < pairs.length; k++) {
            Due.is("found(" + k + ", 0)", x.found(k, 0), pairs[k][0]);
            Due.is("found(" + k + ", 1)", x.found(k, 1), pairs[k][1]);
        }
        Due.is("found(" + pairs.length + ", 0)", x.found(pairs.length, 0), -1);
    }

    private static void quarrelsByTheLesser() {
        Due.of("16: by the lesser one, then the other one");
        TaleHouse x = new TaleHouse();
        Due.tell(x, "eva born 5;", 9, 0);
        Due.tell(x, "tom in rome on 5;", 8, 0);
        Due.tell(x, "eva in rome on 4;", 7, 0);
        Due.tell(x, "tom in bath on 5;", 6, 0);
        Due.tell(x, "eva dead 3;", 5, 0);
        Due.is("quarrels(0)", x.quarrels(0), 4);
        founds(x, new int[][] {{0, 2}, {0, 4}, {1, 3}, {2, 4}});
    }

    private static void quarrelsInTheLastEdition() {
        Due.of("16: the last one that the PART has, if it has not so many");
        TaleHouse x = new TaleHouse();
        for (int part = 0; part < 4; part++) {
            for (int edition = 0; edition < part; edition++) {
                x.mend(part);
            }
            Due.tell(x, "eva born " + part + ";", part, part);
        }
        // fact p stands in part p's last edition alone
        Due.is("quarrels(0)", x.quarrels(0), 0);
        Due.is("quarrels(1)", x.quarrels(1), 1);
        Due.is("quarrels(2)", x.quarrels(2), 3);
        Due.is("quarrels(3)", x.quarrels(3), 6);
        x.mend(0);
        x.strike(0, 1);
        Due.is("quarrels(3) with fact 0 struck", x.quarrels(3), 3);
        Due.is("quarrels(0)", x.quarrels(0), 0);
    }

    private static void quarrelsNone() {
        Due.of("16: NONE if e is not 0 .. 3");
        TaleHouse x = toldIn(0);
        Due.each("quarrels", x::quarrels, -1, -1, 4, Due.MIN, Due.MAX);
        founds(x, new int[][] {});
        Due.each("quarrels", x::quarrels, 1, 0, 1, 2, 3);
        Due.each("quarrels", x::quarrels, -1, -1, 4, Due.MIN, Due.MAX);
        founds(x, new int[][] {{0, 1}});
    }

    private static void foundNoneSuch() {
        Due.of("17: NONE if there is none such");
        TaleHouse x = toldIn(0);
        Due.is("found(0, 0): not looked for yet", x.found(0, 0), -1);
        x.quarrels(0);
        Due.each("found(k, 0)", k -> x.found(k, 0), -1, -1, 1, 1769, 1770, Due.MIN, Due.MAX);
        Due.each("found(k, 1)", k -> x.found(k, 1), -1, -1, 1, 1769, 1770, Due.MIN, Due.MAX);
        Due.each("found(0, what)", what -> x.found(0, what), -1, -1, 2, Due.MIN, Due.MAX);
        x.strike(1, 1);
        Due.is("found(0, 1) until it is looked for again", x.found(0, 1), 1);
        Due.is("quarrels(1)", x.quarrels(1), 0);
        Due.is("found(0, 0)", x.found(0, 0), -1);
    }
}
