/** Each sentence that names a boundary case in promises 1 to 3, and the 512 calls of an object. */
public final class TapeBoundsTest {
    private static final int BLANKS = 0x20202020;

    public static void main(String[] args) {
        anEmptyManuscript();
        noFacts();
        noAgreements();
        noPrintings();
        noForetelling();
        objectsHoldNothingTogether();
        highestByteFirst();
        bytesBehindThoseOnTheTape();
        noMoreThan200();
        feedDoesNothing();
        firstBytesAlone();
        notSoMany();
        endBelow0();
        used512Times();
        Due.finish();
    }

    private static void anEmptyManuscript() {
        Due.of("1: An empty MANUSCRIPT");
        TaleHouse x = new TaleHouse();
        Due.is("clear()", x.clear(), 0);
        Due.is("word(1)", x.word(1), -1);
        Due.each("lines(0, n)", n -> x.lines(0, n), -1, -1, 0, 1);
        Due.each("fill", x::fill, -2, 1, 60, 120);
        Due.each("set(0, what)", what -> x.set(0, what), -1, 0, 1, 2, 3);
        Due.each("line(0, what)", what -> x.line(0, what), -1, 0, 1, 2);
        Due.is("paragraph(-1)", x.paragraph(-1), 0);
    }

    private static void noFacts() {
        Due.of("1: no FACTS");
        TaleHouse x = new TaleHouse();
        Due.is("quarrel(0, 1)", x.quarrel(0, 1), -1);
        Due.each("quarrels", x::quarrels, 0, 0, 1, 2, 3);
        Due.is("found(0, 0)", x.found(0, 0), -1);
        Due.is("found(0, 1)", x.found(0, 1), -1);
        x.mend(0);
        Due.no("strike(0, 1)", x.strike(0, 1));
        Due.no("end(1)", x.end(1));
        Due.is("the first fact", Due.tell(x, "eva born 3;", 0, 0), 0);
    }

    private static void noAgreements() {
        Due.of("1: no AGREEMENTS");
        TaleHouse x = new TaleHouse();
        for (int part = 0; part < 24; part++) {
            Due.is("agreed(" + part + ")", x.agreed(part), -1);
            Due.is("share(" + part + ")", x.share(part), -1);
        }
        Due.is("the first agreement", Due.agree(x, "5 percent late 1;", 0), 0);
    }

    private static void noPrintings() {
        Due.of("1: no printings");
        TaleHouse x = new TaleHouse();
        for (int part = 0; part < 24; part++) {
            for (int what = 0; what < 6; what++) {
                Due.is("stock(" + part + ", 0, " + what + ")", x.stock(part, 0, what), 0);
            }
        }
        Due.is("purse()", x.purse(), 0);
        Due.no("keep(0, 0, true)", x.keep(0, 0, true));
        Due.is("sell(0, 0, 1)", x.sell(0, 0, 1), -1);
        Due.is("pulp(0, 0)", x.pulp(0, 0), 0);
        Due.is("volume(0, 0, 0, 1)", x.volume(0, 0, 0, 1), -2);
    }

    private static void noForetelling() {
        Due.of("1: no FORETELLING");
        TaleHouse x = new TaleHouse();
        Due.is("best(0, 0)", x.best(0, 0), -1);
        Due.is("worth(0, 0, 0)", x.worth(0, 0, 0), -9000000000000000000L);
        Due.is("the first row", x.foretell(1, 1), 1);
    }

    private static void objectsHoldNothingTogether() {
        Due.of("1: a new object, beside one that is used");
        TaleHouse used = new TaleHouse();
        TaleHouse x = new TaleHouse();
        used.paragraph(-1);
        used.word(3);
        used.fill(1);
        used.page(10, 5, 1, 1);
        Due.tell(used, "eva born 3;", 0, 0);
        Due.agree(used, "5 percent late 1;", 0);
        used.came(0, 5);
        used.print(0, 0, 10);
        used.foretell(5, 5);
        Due.is("clear()", x.clear(), 0);
        Due.is("set(0, 0)", x.set(0, 0), -1);
        Due.is("agreed(0)", x.agreed(0), -1);
        Due.is("print(0, 0, 10)", x.print(0, 0, 10), -1);
        Due.is("foretell(5, 5)", x.foretell(5, 5), 1);
        Due.is("fact 0", Due.tell(x, "eva born 4;", 0, 0), 0);
        Due.is("fact 1 of the other", Due.tell(used, "eva born 3;", 0, 0), 1);
        Due.is("quarrel(0, 1) of the other", used.quarrel(0, 1), 0);
    }

    /** A byte that stands in no text is told at the place where it came. */
    private static void highestByteFirst() {
        Due.of("2: Twenty bytes, of each number the highest first");
        for (int at = 0; at < 20; at++) {
            for (int odd : new int[] {33, 127, 128, 255}) {
                TaleHouse x = new TaleHouse();
                Due.is("feed", feedWith(x, at, odd), 20);
                Due.is("fact", x.fact(0, 0), -1);
                Due.is("place of byte " + odd, x.fault(1), at);
            }
        }
    }

    private static int feedWith(TaleHouse x, int at, int odd) {
        int[] numbers = {BLANKS, BLANKS, BLANKS, BLANKS, BLANKS};
        int shift = 24 - at % 4 * 8;
        numbers[at / 4] = BLANKS & ~(255 << shift) | odd << shift;
        return x.feed(numbers[0], numbers[1], numbers[2], numbers[3], numbers[4]);
    }

    private static void bytesBehindThoseOnTheTape() {
        Due.of("2: bytes come behind those on the tape: how many there are");
        for (int before = 0; before <= 180; before += 15) {
            TaleHouse x = withBlanks(before);
            Due.is("feed behind " + before, feedWith(x, 7, 255), before + 20);
            Due.is("fact", x.fact(0, 0), -1);
            Due.is("place behind " + before, x.fault(1), before + 7);
        }
    }

    private static TaleHouse withBlanks(int count) {
        TaleHouse x = new TaleHouse();
        for (int size = 0; size < count; size += 20) {
            x.feed(BLANKS, BLANKS, BLANKS, BLANKS, BLANKS);
        }
        Due.yes("end(" + count + ")", x.end(count));
        return x;
    }

    private static void noMoreThan200() {
        Due.of("2: NONE if there would be more than 200");
        Due.is("feed behind 180", withBlanks(180).feed(0, 0, 0, 0, 0), 200);
        for (int before = 181; before <= 200; before++) {
            Due.is("feed behind " + before, withBlanks(before).feed(0, 0, 0, 0, 0), -1);
        }
    }

    private static void feedDoesNothing() {
        Due.of("2: NONE, doing nothing");
        for (int size : new int[] {181, 199, 200}) {
            TaleHouse x = withBlanks(size);
            Due.is("feed", feedWith(x, 0, 33), -1);
            Due.no("end(" + (size + 1) + ")", x.end(size + 1));
            Due.yes("end(" + size + ")", x.end(size));
            Due.is("fact of blanks", x.fact(0, 0), -1);
            Due.is("fault(1) of blanks", x.fault(1), size);
        }
        TaleHouse y = withBlanks(170);
        Due.is("feed", feedWith(y, 19, 33), 190);
        Due.is("feed", feedWith(y, 0, 33), -1);
        Due.is("fact", y.fact(0, 0), -1);
        Due.is("fault(1): the bytes ahead stay", y.fault(1), 189);
    }

    private static void firstBytesAlone() {
        Due.of("3: The tape has its first n bytes alone: true");
        for (int n = 0; n <= 20; n++) {
            TaleHouse x = withBlanks(20);
            Due.yes("end(" + n + ")", x.end(n));
            Due.is("fact", x.fact(0, 0), -1);
            Due.is("fault(1)", x.fault(1), n);
        }
        TaleHouse y = new TaleHouse();
        Due.yes("end(0) of an empty tape", y.end(0));
        feedWith(y, 12, 33);
        Due.yes("end(12)", y.end(12));
        Due.is("feed", feedWith(y, 3, 33), 32);
        Due.is("fact", y.fact(0, 0), -1);
        Due.is("fault(1): byte 12 went", y.fault(1), 15);
        for (int n = 8; n <= 11; n++) {
            TaleHouse z = new TaleHouse();
            Due.type(z, "eva born 3;");
            Due.yes("end(" + n + ")", z.end(n));
            Due.is("fact of " + n + " bytes", z.fact(0, 0), n < 11 ? -1 : 0);
            Due.is("fault(1) of " + n + " bytes", z.fault(1), n == 11 ? -1 : n);
        }
    }

    private static void notSoMany() {
        Due.of("3: false, doing nothing, if it has not so many");
        TaleHouse x = new TaleHouse();
        Due.each("end of an empty tape", n -> x.end(n) ? 1 : 0, 0, 1, 20, 200, Due.MAX);
        TaleHouse y = withBlanks(200);
        Due.each("end of a full tape", n -> y.end(n) ? 1 : 0, 0, 201, 220, Due.MAX);
        Due.is("feed of a full tape", y.feed(0, 0, 0, 0, 0), -1);
        TaleHouse z = withBlanks(7);
        Due.each("end of seven bytes", n -> z.end(n) ? 1 : 0, 0, 8, 20);
        Due.is("feed behind seven bytes", z.feed(0, 0, 0, 0, 0), 27);
    }

    private static void endBelow0() {
        Due.of("3: false, doing nothing, if n is below 0");
        TaleHouse x = withBlanks(5);
        Due.each("end", n -> x.end(n) ? 1 : 0, 0, -1, -5, -20, Due.MIN);
        Due.is("feed behind five bytes", x.feed(0, 0, 0, 0, 0), 25);
    }

    private static void used512Times() {
        Due.of("An object is used for at most 512 calls after it has been made");
        TaleHouse x = new TaleHouse();
        x.came(0, 0);
        for (int call = 1; call < 510; call++) {
            Due.is("print, call " + call, x.print(0, 0, 100000), 200500);
        }
        Due.is("call 511", x.stock(0, 0, 4), 50900000);
        Due.is("call 512", x.purse(), -509L * 200500);
    }
}
