import java.util.Arrays;

/** Terms: what is written as a VALUE, and what is none. */
public final class TermValueTest {
    private static final int MOST_BYTES = 56;

    public static void main(String[] args) {
        Section section = new Section("Terms, VALUE");
        section.sentence("0 (EMPTY)", TermValueTest::empty);
        section.sentence("1 and a byte, which is 0 or 1 (FLAG", TermValueTest::flag);
        section.sentence("a byte above 1 is read as 1", TermValueTest::flagAboveOne);
        section.sentence("6 and a number of 4 bytes (SMALL)", TermValueTest::small);
        section.sentence("8 and a number of 8 bytes (LARGE)", TermValueTest::large);
        section.sentence("12, a number of 4 bytes, its length, and as many bytes (TEXT", TermValueTest::text);
        section.sentence("length -1 and no bytes is one too", TermValueTest::noText);
        section.sentence("152, a number of 4 bytes, its length, from 0 on, and as many values (LIST)",
                TermValueTest::list);
        section.sentence("The first byte is its KIND.", TermValueTest::kinds);
        section.sentence("A VALUE is written as", TermValueTest::cutAtTheEnd);
        section.end();
    }

    private static void isValue(Check check, int... value) {
        String what = Arrays.toString(value);
        Client x = Client.with(Wire.ANY);
        check.bytes("WRITE " + what, x.send(Wire.write(1, value)), 0);
        check.bytes("READ " + what, x.send(Wire.read(1)), Wire.valueAnswer(value));
        check.same("size of " + what, x.size(1), value.length);
    }

    private static void isNone(Check check, int... value) {
        String what = Arrays.toString(value);
        Client x = Client.with(Wire.ANY);
        x.send(Wire.write(1, Wire.small(77)));
        check.bytes("WRITE " + what, x.send(Wire.write(1, value)), 1);
        check.bytes("READ after " + what, x.send(Wire.read(1)), Wire.valueAnswer(Wire.small(77)));
    }

    /** A value that is cut anywhere, or has a byte behind it, is none: by itself and as the last of a list. */
    private static void isExact(Check check, int... value) {
        isValue(check, value);
        isValue(check, Wire.list(Wire.flag(1), value));
        for (int length = 0; length < value.length; length++) {
            isNone(check, Arrays.copyOf(value, length));
            isNone(check, Wire.list(Wire.flag(1), Arrays.copyOf(value, length)));
        }
        isNone(check, Wire.join(value, Wire.bytes(0)));
        isNone(check, Wire.join(Wire.list(value), Wire.bytes(0)));
    }

    private static void empty(Check check) {
        isExact(check, 0);
    }

    private static void flag(Check check) {
        isExact(check, 1, 0);
        isExact(check, 1, 1);
    }

    private static void flagAboveOne(Check check) {
        for (int b : new int[] {2, 3, 127, 128, 254, 255}) {
            Client x = Client.with(Wire.FLAG, Wire.ANY);
            x.send(Wire.watch(1, 4, 1));
            check.bytes("WRITE " + b, x.send(Wire.write(1, Wire.flag(b))), 0);
            check.bytes("READ", x.send(Wire.read(1)), 0, 1, 1);
            check.same("two notices", x.queue(0), 2);
            check.same("poke finds 1", x.poke(1, 1), false);
            x.send(Wire.write(1, Wire.flag(b)));
            check.same("the same again", x.queue(0), 2);
            x.send(Wire.write(2, Wire.list(Wire.flag(b), Wire.list(Wire.flag(b)), Wire.flag(0))));
            check.bytes("in lists", x.send(Wire.read(2)),
                    Wire.valueAnswer(Wire.list(Wire.flag(1), Wire.list(Wire.flag(1)), Wire.flag(0))));
        }
    }

    private static void small(Check check) {
        isExact(check, Wire.small(0x7F80FF01));
        for (int v : new int[] {0, 1, -1, Integer.MIN_VALUE, Integer.MAX_VALUE}) {
            isValue(check, Wire.small(v));
        }
    }

    private static void large(Check check) {
        isExact(check, Wire.large(0x7F80FF0102030405L));
        for (long v : new long[] {0, 1, -1, 1L << 32, Long.MIN_VALUE, Long.MAX_VALUE}) {
            isValue(check, Wire.large(v));
        }
    }

    private static void text(Check check) {
        isExact(check, Wire.text());
        isExact(check, Wire.text(0));
        isExact(check, Wire.text(255, 0, 152));
        int[] longest = new int[MOST_BYTES];
        Arrays.fill(longest, 200);
        isValue(check, Wire.text(longest));
        for (int length : new int[] {MOST_BYTES + 1, 64, 256, 65536, 16777216, Integer.MAX_VALUE}) {
            isNone(check, Wire.join(Wire.bytes(12), Wire.number(length, 4), longest));
            isNone(check, Wire.join(Wire.bytes(12), Wire.number(length, 4)));
        }
    }

    private static void noText(Check check) {
        isExact(check, 12, 255, 255, 255, 255);
        for (int length : new int[] {-2, -3, -128, -256, -65536, Integer.MIN_VALUE}) {
            isNone(check, Wire.join(Wire.bytes(12), Wire.number(length, 4)));
            isNone(check, Wire.join(Wire.bytes(12), Wire.number(length, 4), Wire.bytes(1)));
            isNone(check, Wire.list(Wire.join(Wire.bytes(12), Wire.number(length, 4))));
        }
        isValue(check, Wire.list(Wire.noText(), Wire.flag(1), Wire.noText()));
    }

    private static void list(Check check) {
        isExact(check, Wire.list());
        isExact(check, Wire.list(Wire.empty()));
        isExact(check, Wire.list(Wire.noText(), Wire.text(1), Wire.flag(0)));
        int[][] most = new int[MOST_BYTES][];
        Arrays.fill(most, Wire.empty());
        isValue(check, Wire.list(most));
        isValue(check, Wire.list(Wire.small(1), Wire.large(2), Wire.list(Wire.empty()), Wire.text(9)));
        for (int length : new int[] {-1, -2, -56, Integer.MIN_VALUE, MOST_BYTES + 1, 256, Integer.MAX_VALUE}) {
            isNone(check, Wire.join(Wire.bytes(152), Wire.number(length, 4)));
            isNone(check, Wire.join(Wire.bytes(152), Wire.number(length, 4), new int[MOST_BYTES]));
        }
    }

    private static void kinds(Check check) {
        for (int kind = 0; kind < 256; kind++) {
            boolean known = kind == 0 || kind == 1 || kind == 6 || kind == 8 || kind == 12 || kind == 152;
            if (!known) {
                for (int behind : new int[] {0, 1, 4, 8}) {
                    isNone(check, Wire.join(Wire.bytes(kind), new int[behind]));
                }
                isNone(check, Wire.list(Wire.bytes(kind)));
            }
        }
    }

    /** Values that break off where the longest message ends, with no byte behind them that could be read. */
    private static void cutAtTheEnd(Check check) {
        int[][] ends = {Wire.bytes(1), Wire.bytes(6), Wire.bytes(6, 1, 1, 1), Wire.bytes(8), Wire.bytes(8, 0, 0),
            Wire.bytes(12), Wire.bytes(12, 1, 0, 0), Wire.bytes(12, 1, 0, 0, 0), Wire.bytes(152),
            Wire.bytes(152, 0, 0, 0), Wire.bytes(152, 1, 0, 0, 0), Wire.bytes(152, 1, 0, 0, 0, 152), Wire.bytes()};
        for (int[] end : ends) {
            int[] text = Wire.text(new int[51 - end.length]);
            int[] value = Wire.join(Wire.bytes(152), Wire.number(2, 4), text, end);
            check.same("64 bytes", Wire.write(1, value).length, 64);
            isNone(check, value);
        }
    }
}
