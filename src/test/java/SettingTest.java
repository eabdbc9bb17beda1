/** Promises 4 to 11: paragraph, word, clear, page, lines, fill, set, line. */
public final class SettingTest {
    private static final int MIN = Due.MIN;
    private static final int MAX = Due.MAX;

    public static void main(String[] args) {
        paragraph();
        word();
        clear();
        page();
        lines();
        fill();
        cuts();
        leads();
        widows();
        pageAtFirst();
        longestParagraph();
        largest();
        setAndLine();
        breaks();
        costsAreNotStale();
        Due.finish();
    }

    private static void paragraph() {
        TaleHouse x = new TaleHouse();
        Due.is("paragraph(-2)", x.paragraph(-2), -1);
        Due.is("paragraph(100001)", x.paragraph(100001), -1);
        Due.is("paragraph(least)", x.paragraph(MIN), -1);
        Due.is("paragraph(most)", x.paragraph(MAX), -1);
        Due.is("paragraph(-1)", x.paragraph(-1), 0);
        Due.is("paragraph(0)", x.paragraph(0), 1);
        Due.is("paragraph(100000)", x.paragraph(100000), 2);
        for (int i = 3; i < 20; i++) {
            Due.is("paragraph(5)", x.paragraph(5), i);
        }
        Due.is("a 21st paragraph", x.paragraph(5), -1);
        Due.is("lines(19, 0)", x.lines(19, 0), 0);
        Due.is("lines(20, 0)", x.lines(20, 0), -1);
    }

    private static void word() {
        TaleHouse x = new TaleHouse();
        Due.is("word(1) of none", x.word(1), -1);
        x.paragraph(-1);
        Due.is("word(0)", x.word(0), -1);
        Due.is("word(21)", x.word(21), -1);
        Due.is("word(least)", x.word(MIN), -1);
        Due.is("word(most)", x.word(MAX), -1);
        Due.is("word(1)", x.word(1), 1);
        Due.is("word(20)", x.word(20), 2);
        for (int i = 3; i <= 30; i++) {
            Due.is("word(2)", x.word(2), i);
        }
        Due.is("a 31st word", x.word(2), -1);
        x.paragraph(-1);
        Due.is("word(2) of the next one", x.word(2), 1);
        Due.is("lines(1, 1)", x.lines(1, 1), 0);
        Due.is("lines(0, 30)", x.lines(0, 30), 39 * 39 + 20 * 20 + 27 * 38 * 38);
        Due.is("lines(0, 31)", x.lines(0, 31), -2);
    }

    private static void clear() {
        TaleHouse x = new TaleHouse();
        x.paragraph(7);
        x.word(4);
        x.paragraph(7);
        Due.is("clear()", x.clear(), 2);
        Due.is("clear()", x.clear(), 0);
        Due.is("word(4)", x.word(4), -1);
        Due.is("lines(0, 1)", x.lines(0, 1), -1);
        Due.is("paragraph(-1)", x.paragraph(-1), 0);
        Due.is("lines(0, 0)", x.lines(0, 0), 0);
        Due.is("lines(0, 1)", x.lines(0, 1), -2);
        Due.is("word(4)", x.word(4), 1);
        Due.is("fill(1)", x.fill(1), 0);
    }

    private static void page() {
        TaleHouse x = new TaleHouse();
        int[][] bad = {
            {9, 20, 0, 0}, {61, 20, 0, 0}, {10, 4, 0, 0}, {10, 41, 0, 0}, {10, 5, -1, 0}, {10, 5, 100001, 0},
            {10, 5, 0, -1}, {10, 5, 0, 100001}, {MIN, 5, 0, 0}, {10, MAX, 0, 0}, {10, 5, MIN, 0}, {10, 5, 0, MAX},
        };
        x.paragraph(-1);
        x.word(20);
        x.word(19);
        for (int[] p : bad) {
            Due.no("page " + java.util.Arrays.toString(p), x.page(p[0], p[1], p[2], p[3]));
        }
        Due.is("WIDE is 40 at first", x.lines(0, 1), 0);
        Due.is("the square of what lacks", x.lines(0, 2), 400);
        Due.yes("page(10, 5, 0, 0)", x.page(10, 5, 0, 0));
        Due.is("a word longer than WIDE", x.lines(0, 2), -2);
        Due.yes("page(60, 40, 100000, 100000)", x.page(60, 40, 100000, 100000));
        Due.is("lines(0, 2)", x.lines(0, 2), 1600);
    }

    private static void lines() {
        TaleHouse x = new TaleHouse();
        x.page(10, 5, 0, 0);
        x.paragraph(3);
        for (int length : new int[] {4, 5, 5, 4, 1}) {
            x.word(length);
        }
        Due.is("lines(0, -1)", x.lines(0, -1), -1);
        Due.is("lines(0, least)", x.lines(0, MIN), -1);
        Due.is("lines(-1, 1)", x.lines(-1, 1), -1);
        Due.is("lines(1, 1)", x.lines(1, 1), -1);
        Due.is("lines(most, 1)", x.lines(MAX, 1), -1);
        Due.is("lines(0, 0)", x.lines(0, 0), -2);
        Due.is("lines(0, 1)", x.lines(0, 1), -2);
        Due.is("lines(0, 2)", x.lines(0, 2), -2);
        Due.is("lines(0, 3): 10, 10, 1", x.lines(0, 3), 0);
        Due.is("lines(0, 4): 10, 5, 4, 1", x.lines(0, 4), 25 + 36);
        Due.is("lines(0, 5)", x.lines(0, 5), 36 + 25 + 25 + 36);
        Due.is("lines(0, 6)", x.lines(0, 6), -2);
        Due.is("lines(0, most)", x.lines(0, MAX), -2);
    }

    private static void fill() {
        TaleHouse x = new TaleHouse();
        Due.is("fill(0)", x.fill(0), -1);
        Due.is("fill(121)", x.fill(121), -1);
        Due.is("fill(least)", x.fill(MIN), -1);
        Due.is("fill(most)", x.fill(MAX), -1);
        Due.is("fill(1) of an empty one", x.fill(1), -2);
        x.paragraph(-1);
        x.word(5);
        Due.is("fill(1)", x.fill(1), 0);
        Due.is("fill(2)", x.fill(2), -2);
        Due.is("set(0, 3) of the one before", x.set(0, 3), 1);
        x.word(5);
        Due.is("fill(2)", x.fill(2), 35 * 35);
        Due.is("set(0, 3)", x.set(0, 3), 2);
        Due.is("fill(121)", x.fill(121), -1);
        Due.is("set(0, 3) of the latest found", x.set(0, 3), 2);
        x.clear();
        Due.is("set(0, 3) as the manuscript was", x.set(0, 3), 2);
        Due.is("line(1, 1) as the manuscript was", x.line(1, 1), 1);
    }

    private static void cuts() {
        TaleHouse x = new TaleHouse();
        x.paragraph(300);
        x.word(5);
        x.paragraph(-1);
        x.word(5);
        Due.is("fill(1): the first is cut", x.fill(1), 300);
        Due.is("set(0, 0)", x.set(0, 0), 1);
        Due.is("set(0, 1)", x.set(0, 1), 0);
        Due.is("set(0, 2)", x.set(0, 2), -1);
        Due.is("set(0, 3)", x.set(0, 3), 0);
        Due.is("set(1, 0)", x.set(1, 0), 0);
        Due.is("set(1, 2)", x.set(1, 2), 0);
        Due.is("line(0, 0)", x.line(0, 0), 1);
        Due.is("fill(3): a lead", x.fill(3), 50);
        x.clear();
        // two alike at no price: the first one stays
        x.paragraph(0);
        x.word(5);
        x.paragraph(0);
        x.word(5);
        Due.is("fill(1)", x.fill(1), 0);
        Due.is("set(0, 0)", x.set(0, 0), 0);
        Due.is("set(1, 0)", x.set(1, 0), 1);
        x.clear();
        x.paragraph(4);
        Due.is("fill(1) of no words", x.fill(1), -2);
        x.paragraph(0);
        x.word(20);
        Due.yes("page", x.page(19, 20, 50, 200));
        Due.is("fill(1): too long a word", x.fill(1), -2);
    }

    private static void leads() {
        TaleHouse x = new TaleHouse();
        x.paragraph(-1);
        x.word(5);
        Due.is("no lead ahead of the first", x.fill(2), -2);
        x.paragraph(-1);
        x.word(5);
        Due.is("fill(2)", x.fill(2), 0);
        Due.is("fill(3)", x.fill(3), 50);
        Due.is("line(1, 0) is blank", x.line(1, 0), -1);
        Due.is("line(1, 1) is blank", x.line(1, 1), -1);
        Due.is("line(1, 2) is blank", x.line(1, 2), -1);
        Due.is("fill(4)", x.fill(4), 100);
        Due.is("set(1, 1)", x.set(1, 1), 2);
        Due.is("set(1, 2)", x.set(1, 2), 3);
        Due.is("fill(5)", x.fill(5), -2);
        x.clear();
        // one of no words is the first that is not cut, and may have leads behind it
        x.paragraph(-1);
        x.paragraph(-1);
        x.word(5);
        Due.is("fill(3) behind one of no words", x.fill(3), 100);
        Due.is("set(0, 0)", x.set(0, 0), 0);
        Due.is("set(0, 1)", x.set(0, 1), 0);
        Due.is("set(0, 2)", x.set(0, 2), -1);
        Due.is("set(0, 3)", x.set(0, 3), 0);
        Due.is("set(1, 2)", x.set(1, 2), 2);
        x.clear();
        x.paragraph(10);
        x.paragraph(10);
        Due.is("fill(2) of leads alone", x.fill(2), 100);
        Due.is("set(1, 1)", x.set(1, 1), 2);
        Due.is("set(1, 2)", x.set(1, 2), -1);
        Due.is("line(0, 0)", x.line(0, 0), -1);
        x.clear();
        // the leads stand as late as they can: fewer ahead of earlier ones
        for (int i = 0; i < 3; i++) {
            x.paragraph(-1);
            x.word(5);
        }
        Due.is("fill(4)", x.fill(4), 50);
        Due.is("set(1, 1)", x.set(1, 1), 0);
        Due.is("set(2, 1)", x.set(2, 1), 1);
        Due.is("fill(7)", x.fill(7), 200);
        Due.is("fill(8)", x.fill(8), -2);
    }

    private static void widows() {
        TaleHouse x = new TaleHouse();
        x.page(10, 5, 100000, 77);
        x.paragraph(-1);
        for (int i = 0; i < 6; i++) {
            x.word(10);
        }
        Due.is("the last line first of a page", x.fill(6), 77);
        x.word(10);
        Due.is("no widow in seven lines", x.fill(7), 0);
        x.clear();
        for (int i = 0; i < 5; i++) {
            x.paragraph(-1);
            x.word(10);
        }
        x.word(10);
        Due.is("both widows of two lines over two pages", x.fill(6), 154);
        Due.yes("page", x.page(10, 5, 30, 77));
        Due.is("leads at the lead price move it", x.fill(7), 30);
        Due.is("set(4, 1)", x.set(4, 1), 1);
        x.clear();
        for (int i = 0; i < 6; i++) {
            x.paragraph(-1);
            x.word(10);
        }
        Due.is("one line is no widow", x.fill(6), 0);
    }

    /** PAGES of 20 lines and a WIDOW price of 200 are there without page(). */
    private static void pageAtFirst() {
        TaleHouse x = new TaleHouse();
        for (int p = 0; p < 19; p++) {
            x.paragraph(-1);
            x.word(20);
        }
        x.paragraph(-1);
        x.word(20);
        x.word(20);
        Due.is("fill(21): both widows", x.fill(21), 400 + 400);
        Due.is("fill(22): a lead", x.fill(22), 400 + 50);
    }

    private static void longestParagraph() {
        TaleHouse x = new TaleHouse();
        x.paragraph(-1);
        for (int w = 0; w < 30; w++) {
            x.word(9);
        }
        // lines of four take 39 letters
        Due.is("lines(0, 7)", x.lines(0, 7), -2);
        Due.is("fill(8)", x.fill(8), 7);
        for (int i = 0; i < 8; i++) {
            Due.is("line(" + i + ", 1)", x.line(i, 1), 4 * i);
            Due.is("line(" + i + ", 2)", x.line(i, 2), i < 7 ? 4 : 2);
        }
        Due.is("fill(30)", x.fill(30), 29 * 31 * 31);
        Due.is("line(29, 1)", x.line(29, 1), 29);
        Due.is("line(29, 2)", x.line(29, 2), 1);
        Due.is("fill(31)", x.fill(31), -2);
    }

    /** 120 lines of the largest manuscript: costs stay whole, and every line is told. */
    private static void largest() {
        TaleHouse x = new TaleHouse();
        x.page(60, 5, 100000, 100000);
        for (int p = 0; p < 20; p++) {
            x.paragraph(100000);
            for (int w = 0; w < 6; w++) {
                x.word(1);
            }
        }
        int cost = x.fill(120);
        Due.yes("fill(120) is possible", cost > 0);
        int told = 0;
        for (int i = 0; i < 120; i++) {
            told += x.line(i, 2) == -1 ? 0 : x.line(i, 2);
        }
        int words = 0;
        for (int p = 0; p < 20; p++) {
            words += x.set(p, 0) == 0 ? 6 : 0;
        }
        Due.is("words in lines", told, words);
        Due.is("line(120, 0)", x.line(120, 0), -1);
    }

    private static void setAndLine() {
        TaleHouse x = new TaleHouse();
        x.paragraph(9);
        x.word(20);
        x.word(19);
        x.word(3);
        x.paragraph(-1);
        x.word(1);
        Due.is("fill(4)", x.fill(4), 50);
        Due.is("set(-1, 0)", x.set(-1, 0), -1);
        Due.is("set(2, 0)", x.set(2, 0), -1);
        Due.is("set(0, -1)", x.set(0, -1), -1);
        Due.is("set(0, 4)", x.set(0, 4), -1);
        Due.is("set(most, most)", x.set(MAX, MAX), -1);
        Due.is("set(1, 0)", x.set(1, 0), 0);
        Due.is("set(1, 1)", x.set(1, 1), 1);
        Due.is("set(1, 2)", x.set(1, 2), 3);
        Due.is("set(1, 3)", x.set(1, 3), 1);
        Due.is("line(0, 2)", x.line(0, 2), 2);
        Due.is("line(1, 0)", x.line(1, 0), 0);
        Due.is("line(1, 1)", x.line(1, 1), 2);
        Due.is("line(1, 2)", x.line(1, 2), 1);
        Due.is("line(2, 0)", x.line(2, 0), -1);
        Due.is("line(3, 0)", x.line(3, 0), 1);
        Due.is("line(4, 0)", x.line(4, 0), -1);
        Due.is("line(-1, 0)", x.line(-1, 0), -1);
        Due.is("line(0, 3)", x.line(0, 3), -1);
        Due.is("line(0, -1)", x.line(0, -1), -1);
        Due.is("line(least, least)", x.line(MIN, MIN), -1);
        x.paragraph(-1);
        Due.is("set(2, 0) of a later one", x.set(2, 0), -1);
        x.clear();
        x.paragraph(5);
        x.word(2);
        Due.is("fill(1)", x.fill(1), 0);
        Due.is("line(3, 0) of the one before", x.line(3, 0), -1);
        Due.is("set(1, 0) of the one before", x.set(1, 0), -1);
    }

    /** Of breaks at the same cost those with more words in the first line in which they differ. */
    private static void breaks() {
        TaleHouse x = new TaleHouse();
        x.page(10, 5, 0, 0);
        x.paragraph(-1);
        for (int i = 0; i < 4; i++) {
            x.word(3);
        }
        // 2 1 1 and 1 2 1 cost alike; 1 1 2 costs more
        Due.is("fill(3)", x.fill(3), 9 + 49);
        Due.is("line(0, 2)", x.line(0, 2), 2);
        Due.is("line(1, 2)", x.line(1, 2), 1);
        Due.is("line(2, 2)", x.line(2, 2), 1);
    }

    private static void costsAreNotStale() {
        TaleHouse x = new TaleHouse();
        x.paragraph(-1);
        x.word(10);
        x.word(10);
        Due.is("lines(0, 2)", x.lines(0, 2), 900);
        x.page(20, 5, 0, 0);
        Due.is("lines(0, 2) of another width", x.lines(0, 2), 100);
        Due.is("lines(0, 1) of another width", x.lines(0, 1), -2);
        x.word(9);
        Due.is("lines(0, 2) with a word more", x.lines(0, 2), 100);
        Due.is("lines(0, 3) with a word more", x.lines(0, 3), 200);
        x.clear();
        x.paragraph(-1);
        Due.is("lines(0, 0) of a new one", x.lines(0, 0), 0);
        Due.is("lines(0, 3) of a new one", x.lines(0, 3), -2);
    }
}
