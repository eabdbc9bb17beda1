/** Compares answers with those that are due, and tells the wrong ones. */
final class Due {
    private static int wrong = 0;
    private static int asked = 0;

    private Due() {
    }

    static void is(String call, long got, long want) {
        asked++;
        if (got != want) {
            wrong++;
            System.out.println(call + " answered " + got + ", due is " + want);
        }
    }

    static void yes(String call, boolean got) {
        is(call, got ? 1 : 0, 1);
    }

    static void no(String call, boolean got) {
        is(call, got ? 1 : 0, 0);
    }

    /** Puts a text on the tape, which must be empty. */
    static void type(TaleHouse house, String text) {
        int length = text.length();
        for (int i = 0; i < length; i += 20) {
            house.feed(four(text, i), four(text, i + 4), four(text, i + 8), four(text, i + 12), four(text, i + 16));
        }
        yes("end(" + length + ")", house.end(length));
    }

    static int tell(TaleHouse house, String text, int part, int edition) {
        type(house, text);
        return house.fact(part, edition);
    }

    static int agree(TaleHouse house, String text, int part) {
        type(house, text);
        return house.agree(part);
    }

    static void finish() {
        System.out.println(wrong == 0 ? asked + " answers are as due" : wrong + " answers are not as due");
        if (wrong != 0) {
            System.exit(1);
        }
    }

    private static int four(String text, int from) {
        int number = 0;
        for (int i = from; i < from + 4; i++) {
            number = number << 8 | (i < text.length() ? text.charAt(i) & 255 : 32);
        }
        return number;
    }
}
