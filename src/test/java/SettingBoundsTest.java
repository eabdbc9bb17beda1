/** Each sentence that names a boundary case in terms I and in promises 4 to 11. */
public final class SettingBoundsTest {
    private static final int FREE = 0;
    private static final int DEAR = 100000;

    public static void main(String[] args) {
        termsOfParagraphs();
        termsOfLines();
        termsOfSettings();
        termsOfPages();
        termsOfOrder();
        promisesOfManuscripts();
        promisesOfSettings();
        Due.finish();
    }

    private static void termsOfParagraphs() {
        upTo20Paragraphs();
        upTo30Words();
        lengthsFrom1To20();
        cutPriceFrom0To100000();
        noneCantBeCut();
    }

    private static void termsOfLines() {
        wideFrom10To60();
        wide40AtFirst();
        oneWordAtLeastInALine();
        wideAtMostInALine();
        wordLongerThanWide();
        squareOfWhatLacks();
        noWordsInNoLines();
    }

    private static void termsOfSettings() {
        settingIn1To120Lines();
        upTo2Leads();
        noLeadAheadOfTheFirst();
        justSoManyLines();
    }

    private static void termsOfPages() {
        pagesOf5To40Lines();
        pagesOf20LinesAtFirst();
        firstPageFromLine0();
        widowsOfTwoLinesAndMore();
        leadAndWidowPrices();
        leadAndWidowPricesAtFirst();
    }

    private static void termsOfOrder() {
        firstTheOneNotCut();
        thenFewerLeads();
        thenFewerLines();
        moreWordsInTheFirstLineThatDiffers();
    }

    private static void promisesOfManuscripts() {
        paragraphNone();
        wordNone();
        clearCounts();
        pageFalse();
    }

    private static void promisesOfSettings() {
        linesNoSuchParagraph();
        linesBelow0();
        linesCantBeSetSo();
        fillCantBe();
        fillThereIsNone();
        setOfTheLatestFound();
        setOfOneThatIsCut();
        setWithoutLines();
        setNoneSuch();
        lineOfABlankOne();
        lineNoneSuch();
    }

    private static void add(TaleHouse x, int cut, int... lengths) {
        x.paragraph(cut);
        for (int length : lengths) {
            x.word(length);
        }
    }

    /** Words that fill a line of ten letters each, so that the breaks cost nothing. */
    private static void addLines(TaleHouse x, int lines) {
        x.paragraph(-1);
        for (int i = 0; i < lines; i++) {
            x.word(10);
        }
    }

    // ---- terms I: paragraphs

    private static void upTo20Paragraphs() {
        Due.of("I: A MANUSCRIPT has up to 20 PARAGRAPHS");
        TaleHouse x = new TaleHouse();
        for (int p = 0; p < 20; p++) {
            Due.is("paragraph " + p, x.paragraph(-1), p);
        }
        Due.each("one more", x::paragraph, -1, -1, 0, 100000);
        Due.is("lines(19, 0)", x.lines(19, 0), 0);
        Due.is("lines(20, 0)", x.lines(20, 0), -1);
        Due.is("word(1) is the last one's", x.word(1), 1);
        Due.is("lines(19, 1)", x.lines(19, 1), 0);
        Due.is("clear()", x.clear(), 20);
        Due.is("paragraph behind clear()", x.paragraph(-1), 0);
    }

    private static void upTo30Words() {
        Due.of("I: each of up to 30 WORDS");
        TaleHouse x = new TaleHouse();
        for (int p = 0; p < 2; p++) {
            x.paragraph(-1);
            for (int w = 1; w <= 30; w++) {
                Due.is("word " + w, x.word(20), w);
            }
            Due.each("one more", x::word, -1, 1, 20);
            Due.is("lines(p, 30)", x.lines(p, 30), 29 * 400);
            Due.is("lines(p, 31)", x.lines(p, 31), -2);
        }
    }

    private static void lengthsFrom1To20() {
        Due.of("I: WORDS with lengths (1 .. 20)");
        TaleHouse x = new TaleHouse();
        x.page(60, 20, 50, 200);
        x.paragraph(-1);
        Due.each("word", x::word, -1, 0, -1, 21, Due.MIN, Due.MAX);
        Due.is("lines(0, 0) of no words", x.lines(0, 0), 0);
        Due.is("word(1)", x.word(1), 1);
        Due.is("word(20)", x.word(20), 2);
        Due.each("word", x::word, -1, 0, -1, 21, Due.MIN, Due.MAX);
        Due.is("word(1)", x.word(1), 3);
        Due.is("lines(0, 3)", x.lines(0, 3), 59 * 59 + 40 * 40);
    }

    private static void cutPriceFrom0To100000() {
        Due.of("I: a CUT price (0 .. 100000)");
        TaleHouse x = new TaleHouse();
        Due.each("paragraph", x::paragraph, -1, -2, 100001, Due.MIN, Due.MAX);
        Due.is("clear() of none", x.clear(), 0);
        for (int price : new int[] {0, 1, 99999, 100000}) {
            add(x, price, 5);
            add(x, -1, 5);
            Due.is("fill(1) with a cut for " + price, x.fill(1), price);
            Due.is("set(0, 0)", x.set(0, 0), 1);
            x.clear();
        }
    }

    private static void noneCantBeCut() {
        Due.of("I: NONE: it can't be cut");
        TaleHouse x = new TaleHouse();
        add(x, -1, 5);
        add(x, -1, 5);
        Due.is("fill(1)", x.fill(1), -2);
        Due.is("fill(2)", x.fill(2), 0);
    }

    // ---- terms I: lines

    private static void wideFrom10To60() {
        Due.of("I: WIDE (10 .. 60)");
        TaleHouse x = new TaleHouse();
        Due.each("page(wide, ..)", wide -> x.page(wide, 20, 50, 200) ? 1 : 0, 0, 9, 61, 0, -10, Due.MIN, Due.MAX);
        add(x, -1, 10, 9);
        Due.is("lines(0, 2) at 40 still", x.lines(0, 2), 900);
        Due.yes("page(10, ..)", x.page(10, 20, 50, 200));
        Due.is("lines(0, 2) at 10", x.lines(0, 2), 0);
        Due.is("lines(0, 1) at 10", x.lines(0, 1), -2);
        Due.yes("page(60, ..)", x.page(60, 20, 50, 200));
        Due.is("lines(0, 2) at 60", x.lines(0, 2), 2500);
    }

    private static void wide40AtFirst() {
        Due.of("I: WIDE: 40 at first");
        TaleHouse x = new TaleHouse();
        add(x, -1, 20, 19);
        Due.is("40 letters in a line", x.lines(0, 1), 0);
        add(x, -1, 20, 20);
        Due.is("41 letters in a line", x.lines(1, 1), -2);
        Due.is("20 of 40 letters lack", x.lines(1, 2), 400);
    }

    private static void oneWordAtLeastInALine() {
        Due.of("I: each line has one WORD at least");
        TaleHouse x = new TaleHouse();
        for (int words = 1; words <= 5; words++) {
            x.paragraph(-1);
            for (int w = 0; w < words; w++) {
                x.word(1);
            }
            Due.is("as many lines as words", x.lines(words - 1, words), (words - 1) * 39 * 39);
            Due.is("a line more than words", x.lines(words - 1, words + 1), -2);
        }
    }

    private static void wideAtMostInALine() {
        Due.of("I: a line takes its WORDS' lengths and 1 for each two side by side, WIDE at most");
        TaleHouse x = new TaleHouse();
        x.page(10, 20, 50, 200);
        add(x, -1, 4, 5);
        Due.is("4 and 5 take ten", x.lines(0, 1), 0);
        add(x, -1, 5, 5);
        Due.is("5 and 5 take eleven", x.lines(1, 1), -2);
        add(x, -1, 2, 3, 3);
        Due.is("2, 3 and 3 take ten", x.lines(2, 1), 0);
        add(x, -1, 3, 3, 3);
        Due.is("3, 3 and 3 take eleven", x.lines(3, 1), -2);
        add(x, -1, 4, 5, 10);
        Due.is("a full line lacks nothing", x.lines(4, 2), 0);
        add(x, -1, 4, 4, 10);
        Due.is("one letter lacks", x.lines(5, 2), 1);
        x.clear();
        // one letter too many would cost as much as one that lacks
        add(x, -1, 9, 1, 5);
        Due.is("fill(2)", x.fill(2), 1);
        Due.is("line(0, 2)", x.line(0, 2), 1);
        Due.is("line(1, 2)", x.line(1, 2), 2);
    }

    private static void wordLongerThanWide() {
        Due.of("I: a WORD longer than WIDE stands in none");
        TaleHouse x = new TaleHouse();
        x.page(19, 20, 50, 200);
        add(x, 7, 1, 20);
        Due.each("lines(0, n)", n -> x.lines(0, n), -2, 0, 1, 2, 3);
        Due.each("fill", x::fill, -2, 1, 2, 3);
        add(x, -1, 19);
        Due.is("one as long as WIDE stands", x.lines(1, 1), 0);
        Due.is("fill(1): the other is cut", x.fill(1), 7);
        Due.yes("page(20, ..)", x.page(20, 20, 50, 200));
        Due.is("lines(0, 2) at 20", x.lines(0, 2), 361);
    }

    private static void squareOfWhatLacks() {
        Due.of("I: A line that is not the PARAGRAPH's last one costs the square of what lacks to WIDE");
        TaleHouse x = new TaleHouse();
        x.page(60, 20, 50, 200);
        add(x, -1, 1);
        Due.is("the last one costs nothing", x.lines(0, 1), 0);
        add(x, -1, 1, 1);
        Due.is("59 lack in the first", x.lines(1, 2), 59 * 59);
        add(x, -1, 20, 20, 18, 1);
        Due.is("nothing lacks in the first", x.lines(2, 2), 0);
    }

    private static void noWordsInNoLines() {
        Due.of("I: One of no WORDS is set in no lines, at no cost");
        TaleHouse x = new TaleHouse();
        x.paragraph(9);
        Due.is("lines(0, 0)", x.lines(0, 0), 0);
        Due.each("lines(0, n)", n -> x.lines(0, n), -2, 1, 2, 30, Due.MAX);
        add(x, -1, 5);
        Due.is("lines(1, 0) of one word", x.lines(1, 0), -2);
        Due.is("fill(1)", x.fill(1), 0);
        Due.is("set(0, 0)", x.set(0, 0), 0);
    }

    // ---- terms I: settings

    private static void settingIn1To120Lines() {
        Due.of("I: A SETTING in L lines (1 .. 120)");
        TaleHouse x = new TaleHouse();
        x.page(10, 40, DEAR, FREE);
        for (int p = 0; p < 4; p++) {
            addLines(x, 30);
        }
        Due.is("fill(119)", x.fill(119), -2);
        Due.is("fill(120)", x.fill(120), 0);
        Due.is("fill(121)", x.fill(121), -1);
        Due.is("line(119, 0)", x.line(119, 0), 3);
        Due.is("line(119, 1)", x.line(119, 1), 29);
        Due.is("line(119, 2)", x.line(119, 2), 1);
        Due.is("line(120, 0)", x.line(120, 0), -1);
        Due.is("set(3, 2)", x.set(3, 2), 90);
        Due.is("set(3, 3)", x.set(3, 3), 30);
        addLines(x, 1);
        Due.is("fill(120) of 121 lines", x.fill(120), -2);
        Due.is("fill(121) of 121 lines", x.fill(121), -1);
        x.clear();
        addLines(x, 1);
        Due.is("fill(0)", x.fill(0), -1);
        Due.is("fill(1)", x.fill(1), 0);
    }

    private static void upTo2Leads() {
        Due.of("I: how many LEADS (0 .. 2 blank lines, each at the LEAD price)");
        TaleHouse x = new TaleHouse();
        add(x, -1, 5);
        add(x, -1, 5);
        for (int leads = 0; leads <= 2; leads++) {
            Due.is("fill(" + (2 + leads) + ")", x.fill(2 + leads), 50 * leads);
            Due.is("set(1, 1)", x.set(1, 1), leads);
            Due.is("set(1, 2)", x.set(1, 2), 1 + leads);
        }
        Due.is("fill(5)", x.fill(5), -2);
        add(x, -1, 5);
        Due.is("fill(7)", x.fill(7), 200);
        Due.is("fill(8)", x.fill(8), -2);
    }

    private static void noLeadAheadOfTheFirst() {
        Due.of("I: none ahead of the first one that is not CUT");
        TaleHouse x = new TaleHouse();
        x.page(10, 20, 50, 200);
        add(x, 7, 11);
        add(x, 8, 11);
        add(x, -1, 5);
        Due.is("fill(1): two are cut", x.fill(1), 15);
        Due.is("fill(2)", x.fill(2), -2);
        Due.is("fill(3)", x.fill(3), -2);
        add(x, -1, 5);
        Due.is("fill(4): behind it they may", x.fill(4), 15 + 100);
        Due.is("set(2, 1)", x.set(2, 1), 0);
        Due.is("set(3, 1)", x.set(3, 1), 2);
        Due.is("fill(5)", x.fill(5), -2);
        x.clear();
        x.paragraph(-1);
        Due.is("fill(1) of none but one of no words", x.fill(1), -2);
        x.paragraph(-1);
        Due.is("fill(1): a lead ahead of the second", x.fill(1), 50);
        Due.is("fill(2)", x.fill(2), 100);
        Due.is("fill(3)", x.fill(3), -2);
        x.clear();
        // a lead ahead of the first would cost no more than to cut it
        x.page(10, 20, 5, 200);
        add(x, 9, 10);
        add(x, 4, 10, 10);
        Due.is("fill(2)", x.fill(2), 9);
        Due.is("set(0, 0)", x.set(0, 0), 1);
        Due.is("set(1, 0)", x.set(1, 0), 0);
        Due.is("set(1, 2)", x.set(1, 2), 0);
    }

    private static void justSoManyLines() {
        Due.of("I: lines and LEADS together are just L");
        TaleHouse x = new TaleHouse();
        x.page(10, 40, 50, FREE);
        addLines(x, 4);
        Due.each("fill", x::fill, -2, 1, 2, 3, 5, 6, 120);
        Due.is("fill(4)", x.fill(4), 0);
    }

    // ---- terms I: pages

    /** A paragraph of so many lines behind others that are of one line, or of 30. */
    private static TaleHouse behindLines(int before, int own) {
        TaleHouse x = new TaleHouse();
        int rest = before;
        if (rest >= 30) {
            addLines(x, 30);
            rest -= 30;
        }
        for (int i = 0; i < rest; i++) {
            addLines(x, 1);
        }
        addLines(x, own);
        return x;
    }

    private static void pagesOf5To40Lines() {
        Due.of("I: PAGES have P lines (5 .. 40)");
        TaleHouse x = new TaleHouse();
        Due.each("page(.., p, ..)", p -> x.page(10, p, 0, 0) ? 1 : 0, 0, 4, 41, 0, -5, Due.MIN, Due.MAX);
        int[][] due = {
            {5, 3, 0}, {5, 4, 14}, {5, 5, 0}, {5, 9, 14}, {6, 4, 0}, {6, 5, 14}, {39, 38, 14}, {39, 39, 0},
            {40, 38, 0}, {40, 39, 14}, {40, 40, 0},
        };
        for (int[] d : due) {
            TaleHouse y = behindLines(d[1], 2);
            Due.yes("page(10, " + d[0] + ", ..)", y.page(10, d[0], DEAR, 7));
            Due.is(d[0] + " lines a page, two behind " + d[1], y.fill(d[1] + 2), d[2]);
        }
    }

    private static void pagesOf20LinesAtFirst() {
        Due.of("I: PAGES have P lines: 20 at first");
        for (int before = 17; before <= 19; before++) {
            TaleHouse x = new TaleHouse();
            for (int p = 0; p < before; p++) {
                add(x, -1, 20);
            }
            add(x, -1, 20, 20);
            Due.is("two lines behind " + before, x.fill(before + 2), before == 19 ? 800 : 400);
        }
    }

    private static void firstPageFromLine0() {
        Due.of("I: the first one from line 0 on: its first line as the last of a PAGE, "
            + "and its last one as the first of a PAGE");
        int[][] due = {
            // lines before, own lines, widows
            {0, 2, 0}, {0, 5, 0}, {0, 6, 1}, {0, 7, 0}, {0, 11, 1}, {1, 5, 1}, {2, 3, 0}, {2, 4, 1}, {3, 2, 0},
            {3, 3, 1}, {3, 4, 0}, {4, 2, 2}, {4, 3, 1}, {4, 6, 1}, {4, 7, 2}, {5, 2, 0}, {5, 6, 1}, {9, 2, 2},
        };
        for (int[] d : due) {
            TaleHouse x = behindLines(d[0], d[1]);
            x.page(10, 5, DEAR, 7);
            Due.is(d[1] + " lines behind " + d[0], x.fill(d[0] + d[1]), 7 * d[2]);
        }
    }

    private static void widowsOfTwoLinesAndMore() {
        Due.of("I: of a PARAGRAPH of two lines and more");
        TaleHouse x = behindLines(12, 0);
        x.page(10, 5, DEAR, 7);
        Due.is("twelve of one line", x.fill(12), 0);
    }

    private static void leadAndWidowPrices() {
        Due.of("I: LEAD, WIDOW price: 0 .. 100000");
        TaleHouse x = new TaleHouse();
        int[] bad = {-1, 100001, Due.MIN, Due.MAX};
        Due.each("page(.., lead, 0)", lead -> x.page(10, 5, lead, 0) ? 1 : 0, 0, bad);
        Due.each("page(.., 0, widow)", widow -> x.page(10, 5, 0, widow) ? 1 : 0, 0, bad);
        for (int price : new int[] {0, 1, 99999, 100000}) {
            TaleHouse y = behindLines(1, 1);
            Due.yes("page with leads for " + price, y.page(10, 5, price, 3));
            Due.is("a lead", y.fill(3), price);
            TaleHouse z = behindLines(0, 6);
            Due.yes("page with widows for " + price, z.page(10, 5, 3, price));
            Due.is("a widow", z.fill(6), price);
        }
    }

    private static void leadAndWidowPricesAtFirst() {
        Due.of("I: LEAD, WIDOW price: 50, 200 at first");
        TaleHouse x = new TaleHouse();
        add(x, -1, 20);
        add(x, -1, 20);
        Due.is("a lead", x.fill(3), 50);
        x.clear();
        x.paragraph(-1);
        for (int w = 0; w < 21; w++) {
            x.word(20);
        }
        Due.is("a widow", x.fill(21), 20 * 400 + 200);
    }

    // ---- terms I: the setting

    private static void firstTheOneNotCut() {
        Due.of("I: of several the first: the one that is not CUT");
        TaleHouse x = new TaleHouse();
        for (int p = 0; p < 3; p++) {
            add(x, 0, 5);
        }
        for (int kept = 1; kept <= 3; kept++) {
            Due.is("fill(" + kept + ")", x.fill(kept), 0);
            for (int p = 0; p < 3; p++) {
                Due.is("set(" + p + ", 0)", x.set(p, 0), p < kept ? 0 : 1);
            }
        }
        x.clear();
        // one of the last two is cut, at one price
        x.page(10, 20, DEAR, 0);
        add(x, -1, 5);
        add(x, 36, 4, 4);
        add(x, 36, 4, 4);
        Due.is("fill(2)", x.fill(2), 36);
        Due.is("set(1, 0)", x.set(1, 0), 0);
        Due.is("set(2, 0)", x.set(2, 0), 1);
    }

    private static void thenFewerLeads() {
        Due.of("I: of several the first: with fewer LEADS");
        TaleHouse x = new TaleHouse();
        for (int p = 0; p < 3; p++) {
            add(x, -1, 5);
        }
        int[][] due = {{3, 0, 0}, {4, 0, 1}, {5, 0, 2}, {6, 1, 2}, {7, 2, 2}};
        for (int[] d : due) {
            Due.is("fill(" + d[0] + ")", x.fill(d[0]), (d[1] + d[2]) * 50);
            Due.is("set(1, 1)", x.set(1, 1), d[1]);
            Due.is("set(2, 1)", x.set(2, 1), d[2]);
        }
        x.clear();
        // a lead, or a line more at the same cost
        x.page(10, 20, 36, 0);
        add(x, -1, 5);
        add(x, -1, 4, 4);
        Due.is("fill(3)", x.fill(3), 36);
        Due.is("set(1, 1)", x.set(1, 1), 0);
        Due.is("set(1, 3)", x.set(1, 3), 2);
    }

    private static void thenFewerLines() {
        Due.of("I: of several the first: then in fewer lines");
        TaleHouse x = new TaleHouse();
        x.page(10, 20, 1000, 0);
        for (int p = 0; p < 3; p++) {
            add(x, -1, 4, 4);
        }
        Due.is("fill(4)", x.fill(4), 36);
        Due.is("set(0, 3)", x.set(0, 3), 1);
        Due.is("set(1, 3)", x.set(1, 3), 1);
        Due.is("set(2, 3)", x.set(2, 3), 2);
        Due.is("fill(5)", x.fill(5), 72);
        Due.is("set(0, 3)", x.set(0, 3), 1);
        Due.is("set(1, 3)", x.set(1, 3), 2);
    }

    private static void moreWordsInTheFirstLineThatDiffers() {
        Due.of("I: the breaks with more WORDS in the first line in which they differ");
        TaleHouse x = new TaleHouse();
        x.page(10, 20, 50, 0);
        add(x, -1, 3, 3, 3, 3);
        Due.is("fill(3)", x.fill(3), 9 + 49);
        Due.is("line(0, 2)", x.line(0, 2), 2);
        Due.is("line(1, 2)", x.line(1, 2), 1);
        x.clear();
        add(x, -1, 9, 3, 3, 3, 3);
        Due.is("fill(4)", x.fill(4), 1 + 9 + 49);
        Due.is("line(0, 2)", x.line(0, 2), 1);
        Due.is("line(1, 2)", x.line(1, 2), 2);
        Due.is("line(2, 2)", x.line(2, 2), 1);
    }

    // ---- promises 4 to 7

    private static void paragraphNone() {
        Due.of("4: NONE if its CUT price can't be, or there are 20");
        TaleHouse x = new TaleHouse();
        x.paragraph(3);
        x.word(5);
        Due.each("paragraph", x::paragraph, -1, -2, 100001);
        Due.is("word(5): the last one is as it was", x.word(5), 2);
        Due.is("paragraph(4)", x.paragraph(4), 1);
    }

    private static void wordNone() {
        Due.of("5: NONE if there is none, the length can't be, or it has 30");
        TaleHouse x = new TaleHouse();
        Due.each("word of no paragraph", x::word, -1, 1, 20);
        x.paragraph(-1);
        Due.is("a refused word is not there", x.lines(0, 0), 0);
        x.word(1);
        x.clear();
        Due.each("word behind clear()", x::word, -1, 1, 20);
        x.paragraph(-1);
        Due.is("word(1)", x.word(1), 1);
    }

    private static void clearCounts() {
        Due.of("6: The MANUSCRIPT is empty: how many PARAGRAPHS it had");
        TaleHouse x = new TaleHouse();
        for (int count : new int[] {0, 1, 20, 0}) {
            for (int p = 0; p < count; p++) {
                add(x, 5, 3);
            }
            Due.is("clear()", x.clear(), count);
            Due.is("lines(0, 1)", x.lines(0, 1), -1);
            Due.is("fill(1)", x.fill(1), -2);
        }
        Due.yes("page", x.page(10, 5, 0, 0));
        x.clear();
        add(x, -1, 5, 5);
        Due.is("WIDE stays", x.lines(0, 2), 25);
    }

    private static void pageFalse() {
        Due.of("7: WIDE, P, LEAD and WIDOW price: true; false if one can't be");
        int[][] bad = {{9, 5, 1, 2}, {10, 4, 1, 2}, {10, 5, -1, 2}, {10, 5, 1, -1}};
        for (int[] b : bad) {
            TaleHouse x = behindLines(4, 2);
            Due.yes("page(11, 6, 3, 4)", x.page(11, 6, 3, 4));
            Due.no("page " + java.util.Arrays.toString(b), x.page(b[0], b[1], b[2], b[3]));
            Due.is("fill(6): WIDE 11, P 6", x.fill(6), 1);
            Due.is("fill(7): WIDE 11, P 6, LEAD 3, WIDOW 4", x.fill(7), 1 + 3 + 2 * 4);
        }
        TaleHouse y = new TaleHouse();
        Due.yes("the least", y.page(10, 5, 0, 0));
        Due.yes("the most", y.page(60, 40, 100000, 100000));
    }

    // ---- promises 8 to 11

    private static void linesNoSuchParagraph() {
        Due.of("8: -1 there is no such PARAGRAPH");
        TaleHouse x = new TaleHouse();
        Due.each("lines(p, 0) of none", p -> x.lines(p, 0), -1, -1, 0, 1, Due.MIN, Due.MAX);
        add(x, -1, 5);
        add(x, -1, 5);
        Due.each("lines(p, 1) of two", p -> x.lines(p, 1), -1, -1, 2, 19, 20, Due.MIN, Due.MAX);
        Due.each("lines(p, 1) of two", p -> x.lines(p, 1), 0, 0, 1);
        Due.each("lines(p, 9) of two", p -> x.lines(p, 9), -1, -1, 2);
    }

    private static void linesBelow0() {
        Due.of("8: -1 n is below 0");
        TaleHouse x = new TaleHouse();
        x.paragraph(-1);
        add(x, -1, 5);
        Due.each("lines(0, n)", n -> x.lines(0, n), -1, -1, -2, Due.MIN);
        Due.each("lines(1, n)", n -> x.lines(1, n), -1, -1, -2, Due.MIN);
    }

    private static void linesCantBeSetSo() {
        Due.of("8: -2 it can't be set so");
        TaleHouse x = new TaleHouse();
        add(x, -1, 20, 20, 20);
        Due.each("lines(0, n)", n -> x.lines(0, n), -2, 0, 1, 2, 4, 30, 31, 120, 121, Due.MAX);
        Due.is("lines(0, 3)", x.lines(0, 3), 800);
    }

    private static void fillCantBe() {
        Due.of("9: -1 they can't be");
        TaleHouse x = new TaleHouse();
        Due.each("fill of none", x::fill, -1, 0, -1, 121, Due.MIN, Due.MAX);
        add(x, -1, 5);
        Due.is("fill(1)", x.fill(1), 0);
        Due.each("fill", x::fill, -1, 0, -1, 121, Due.MIN, Due.MAX);
        Due.is("set(0, 3): the latest found", x.set(0, 3), 1);
    }

    private static void fillThereIsNone() {
        Due.of("9: -2 there is none");
        TaleHouse x = new TaleHouse();
        Due.each("fill of none", x::fill, -2, 1, 2, 120);
        add(x, 5, 5);
        Due.each("fill of one line", x::fill, -2, 2, 120);
        Due.is("set(0, 0): none was found", x.set(0, 0), -1);
    }

    private static void setOfTheLatestFound() {
        Due.of("10: in the latest SETTING that was found (as the MANUSCRIPT was then)");
        TaleHouse x = new TaleHouse();
        Due.is("set(0, 0) ahead of any", x.set(0, 0), -1);
        add(x, -1, 20, 20);
        Due.is("set(0, 0) ahead of any", x.set(0, 0), -1);
        Due.is("fill(2)", x.fill(2), 400);
        Due.is("fill(9) finds none", x.fill(9), -2);
        Due.is("fill(0) can't be", x.fill(0), -1);
        Due.is("set(0, 3)", x.set(0, 3), 2);
        x.word(20);
        Due.is("set(0, 3) with a word more", x.set(0, 3), 2);
        x.paragraph(-1);
        Due.is("set(1, 0) of a later one", x.set(1, 0), -1);
        x.page(10, 5, 0, 0);
        x.clear();
        Due.is("set(0, 3) behind clear()", x.set(0, 3), 2);
        Due.is("line(1, 1) behind clear()", x.line(1, 1), 1);
        x.paragraph(-1);
        x.word(5);
        Due.is("fill(1)", x.fill(1), 0);
        Due.is("set(0, 3) of the new one", x.set(0, 3), 1);
        Due.is("line(1, 1) of the new one", x.line(1, 1), -1);
    }

    private static void setOfOneThatIsCut() {
        Due.of("10: 1 to 3: 0, NONE, 0 of one that is CUT");
        TaleHouse x = new TaleHouse();
        add(x, -1, 5);
        add(x, 4, 5);
        Due.is("fill(1)", x.fill(1), 4);
        int[] due = {1, 0, -1, 0};
        for (int what = 0; what < 4; what++) {
            Due.is("set(1, " + what + ")", x.set(1, what), due[what]);
        }
    }

    private static void setWithoutLines() {
        Due.of("10: 2: NONE of one without lines");
        TaleHouse x = new TaleHouse();
        add(x, -1, 5);
        x.paragraph(-1);
        Due.is("fill(2)", x.fill(2), 50);
        int[] due = {0, 1, -1, 0};
        for (int what = 0; what < 4; what++) {
            Due.is("set(1, " + what + ")", x.set(1, what), due[what]);
        }
    }

    private static void setNoneSuch() {
        Due.of("10: NONE if there is none such");
        TaleHouse x = new TaleHouse();
        for (int p = 0; p < 20; p++) {
            add(x, -1, 5);
        }
        Due.is("fill(20)", x.fill(20), 0);
        Due.each("set(p, 0)", p -> x.set(p, 0), -1, -1, 20, Due.MIN, Due.MAX);
        Due.each("set(p, 3)", p -> x.set(p, 3), 1, 0, 19);
        Due.each("set(0, what)", what -> x.set(0, what), -1, -1, 4, Due.MIN, Due.MAX);
        x.clear();
        add(x, -1, 5);
        Due.is("fill(1)", x.fill(1), 0);
        Due.each("set(p, 0) of one", p -> x.set(p, 0), -1, 1, 19);
    }

    private static void lineOfABlankOne() {
        Due.of("11: NONE of a blank one");
        TaleHouse x = new TaleHouse();
        add(x, -1, 5);
        add(x, -1, 6, 7);
        Due.is("fill(4)", x.fill(4), 100);
        int[][] due = {{0, 0, 1}, {-1, -1, -1}, {-1, -1, -1}, {1, 0, 2}};
        for (int i = 0; i < 4; i++) {
            for (int what = 0; what < 3; what++) {
                Due.is("line(" + i + ", " + what + ")", x.line(i, what), due[i][what]);
            }
        }
    }

    private static void lineNoneSuch() {
        Due.of("11: NONE if there is none such");
        TaleHouse x = new TaleHouse();
        Due.each("line(0, what) ahead of any", what -> x.line(0, what), -1, 0, 1, 2);
        add(x, -1, 20, 20, 20);
        Due.is("fill(3)", x.fill(3), 800);
        Due.each("line(i, 2)", i -> x.line(i, 2), 1, 0, 1, 2);
        Due.each("line(i, 2)", i -> x.line(i, 2), -1, -1, 3, 119, 120, Due.MIN, Due.MAX);
        Due.each("line(0, what)", what -> x.line(0, what), -1, -1, 3, Due.MIN, Due.MAX);
    }
}
