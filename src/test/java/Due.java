/** Compares answers with those that are due, and tells the wrong ones. */
final class Due {
    static final int MIN = Integer.MIN_VALUE;
    static final int MAX = Integer.MAX_VALUE;

    private static int wrong = 0;
    private static int asked = 0;
    private static String sentence = "";

    private Due() {
    }

    /** A call of one number; a boolean counts 1 or 0. */
    interface Ask {
        long of(int number);
    }

    /** The sentence of the document that the answers from here on would break. */
    static void of(String text) {
        sentence = text;
    }

    static void is(String call, long got, long want) {
        asked++;
        if (got != want) {
            wrong++;
            String under = sentence.isEmpty() ? "" : " [" + sentence + "]";
            System.out.println(call + " answered " + got + ", due is " + want + under);
        }
    }

    static void yes(String call, boolean got) {
        is(call, got ? 1 : 0, 1);
    }

    static void no(String call, boolean got) {
        is(call, got ? 1 : 0, 0);
    }

    /** The same answer is due for each of these numbers. */
    static void each(String call, Ask ask, long want, int... numbers) {
        for (int number : numbers) {
            is(call + " of " + number, ask.of(number), want);
        }
    }

    /** Puts a text on the tape, which must be empty. */
    static void type(TaleHouse house, String text) {
        yes("end(" + text.length() + ")", lay(house, text));
    }

    /** Puts a text on the tape, whatever the house answers. */
    static boolean lay(TaleHouse house, String text) {
        for (int i = 0; i < text.length(); i += 20) {
            house.feed(four(text, i), four(text, i + 4), four(text, i + 8), four(text, i + 12), four(text, i + 16));
        }
        return house.end(text.length());
    }

    static int tell(TaleHouse house, String text, int part, int edition) {
        type(house, text);
        return house.fact(part, edition);
    }

    static int agree(TaleHouse house, String text, int part) {
        type(house, text);
        return house.agree(part);
    }

    /** A fact is read without a fault, by a new object. */
    static void goodFact(String text) {
        TaleHouse x = new TaleHouse();
        is("fact of '" + text + "'", tell(x, text, 0, 0), 0);
        noFault(x, text);
    }

    /** A fact has fault 1 at this place, and is not told. */
    static void badFact(String text, int place) {
        TaleHouse x = new TaleHouse();
        is("fact of '" + text + "'", tell(x, text, 0, 0), -1);
        faultIs(x, text, 1, place);
        is("no fact of '" + text + "'", tell(x, "eva born 3;", 0, 0), 0);
    }

    /** An agreement is read without a fault, by a new object. */
    static void goodAgreement(String text) {
        TaleHouse x = new TaleHouse();
        is("agree of '" + text + "'", agree(x, text, 0), 0);
        noFault(x, text);
    }

    /** An agreement has this fault at this place, and is not told. */
    static void badAgreement(String text, int fault, int place) {
        TaleHouse x = new TaleHouse();
        is("agree of '" + text + "'", agree(x, text, 0), -1);
        faultIs(x, text, fault, place);
        is("no agreement of '" + text + "'", x.agreed(0), -1);
    }

    static void finish() {
        System.out.println(wrong == 0 ? asked + " answers are as due" : wrong + " answers are not as due");
        if (wrong != 0) {
            System.exit(1);
        }
    }

    private static void noFault(TaleHouse house, String text) {
        faultIs(house, text, 0, -1);
    }

    private static void faultIs(TaleHouse house, String text, int fault, int place) {
        is("fault(0) of '" + text + "'", house.fault(0), fault);
        is("fault(1) of '" + text + "'", house.fault(1), place);
    }

    private static int four(String text, int from) {
        int number = 0;
        for (int i = from; i < from + 4; i++) {
            number = number << 8 | (i < text.length() ? text.charAt(i) & 255 : 32);
        }
        return number;
    }
}
