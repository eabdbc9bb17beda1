/** Promises 1 to 3: a new object, feed, end. */
public final class TapeTest {
    public static void main(String[] args) {
        newObject();
        feed();
        end();
        Due.finish();
    }

    private static void newObject() {
        TaleHouse x = new TaleHouse();
        Due.is("NONE", TaleHouse.NONE, -1);
        Due.is("lines(0, 0)", x.lines(0, 0), -1);
        Due.is("word(3)", x.word(3), -1);
        Due.is("fill(1)", x.fill(1), -2);
        Due.is("set(0, 0)", x.set(0, 0), -1);
        Due.is("line(0, 0)", x.line(0, 0), -1);
        Due.is("fault(0)", x.fault(0), 0);
        Due.is("fault(1)", x.fault(1), -1);
        Due.is("quarrel(0, 1)", x.quarrel(0, 1), -1);
        Due.is("found(0, 0)", x.found(0, 0), -1);
        Due.is("quarrels(0)", x.quarrels(0), 0);
        Due.is("agreed(23)", x.agreed(23), -1);
        Due.is("share(0)", x.share(0), -1);
        Due.is("due(0)", x.due(0), 0);
        Due.is("stock(0, 0, 0)", x.stock(0, 0, 0), 0);
        Due.is("stock(0, 1, 0)", x.stock(0, 1, 0), -1);
        Due.is("best(0, 0)", x.best(0, 0), -1);
        Due.is("purse()", x.purse(), 0);
        Due.is("clear()", x.clear(), 0);
        Due.no("end(1)", x.end(1));
        Due.yes("end(0)", x.end(0));
    }

    private static void feed() {
        TaleHouse x = new TaleHouse();
        for (int i = 1; i <= 10; i++) {
            Due.is("feed " + i, x.feed(0x20202020, 0x20202020, 0x20202020, 0x20202020, 0x20202020), 20 * i);
        }
        Due.is("feed of bytes 201 to 220", x.feed(0, 0, 0, 0, 0), -1);
        Due.yes("end(181)", x.end(181));
        Due.is("feed of bytes 182 to 201", x.feed(0, 0, 0, 0, 0), -1);
        Due.yes("end(180)", x.end(180));
        Due.is("feed of bytes 181 to 200", x.feed(0x65766120, 0x626f726e, 0x20333b20, 0x20202020, 0x20202020), 200);
        Due.is("fact behind 180 blanks", x.fact(0, 0), 0);
        Due.is("the tape went", x.feed(0, 0, 0, 0, 0), 20);
        // each byte at its place: the highest of a number comes first
        String text = "ab in cdefgh on 123;";
        Due.yes("end(0)", x.end(0));
        Due.type(x, text);
        Due.is("fact of twenty bytes", x.fact(0, 0), 1);
        Due.is("a byte above 127", x.feed(0x61ff2020, 0, 0, 0, 0), 20);
        Due.is("fact", x.fact(0, 0), -1);
        Due.is("fault(1)", x.fault(1), 1);
    }

    private static void end() {
        TaleHouse x = new TaleHouse();
        Due.is("feed", x.feed(0x65766120, 0x626f726e, 0x20333b39, 0x20202020, 0x20202020), 20);
        Due.no("end(21)", x.end(21));
        Due.no("end(-1)", x.end(-1));
        Due.no("end(least)", x.end(Integer.MIN_VALUE));
        Due.no("end(most)", x.end(Integer.MAX_VALUE));
        Due.yes("end(20)", x.end(20));
        Due.yes("end(11)", x.end(11));
        Due.no("end(12)", x.end(12));
        Due.is("fact", x.fact(0, 0), 0);
        Due.no("end(1) of a tape that went", x.end(1));
        Due.is("feed", x.feed(0x65766120, 0x626f726e, 0x20333b39, 0x20202020, 0x20202020), 20);
        Due.yes("end(0)", x.end(0));
        Due.is("fact of an empty tape", x.fact(0, 0), -1);
        Due.is("fault(1)", x.fault(1), 0);
        Due.is("feed", x.feed(0x65766120, 0x626f726e, 0x20333b39, 0x20202020, 0x20202020), 20);
        Due.yes("end(10)", x.end(10));
        Due.is("fact cut short of its sign", x.fact(0, 0), -1);
        Due.is("fault(1)", x.fault(1), 10);
        Due.is("feed", x.feed(0x65766120, 0x626f726e, 0x20333b39, 0x20202020, 0x20202020), 20);
        Due.yes("end(9)", x.end(9));
        Due.is("fact cut short of its day", x.fact(0, 0), -1);
        Due.is("fault(1)", x.fault(1), 9);
        Due.is("feed", x.feed(0x65766120, 0x626f726e, 0x20333b39, 0x20202020, 0x20202020), 20);
        Due.yes("end(10)", x.end(10));
        Due.is("feed goes on behind the end", x.feed(0x20203b20, 0x20202020, 0x20202020, 0x20202020, 0x20202020), 30);
        Due.is("fact", x.fact(0, 0), 1);
    }
}
