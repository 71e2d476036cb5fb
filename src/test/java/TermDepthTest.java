import java.util.Arrays;

/** Terms: how deep a VALUE is, and when two are the same. */
public final class TermDepthTest {
    private static final int[] DEEP1 = Wire.list();
    private static final int[] DEEP2 = Wire.list(DEEP1);
    private static final int[] DEEP3 = Wire.list(DEEP2);

    public static void main(String[] args) {
        Section section = new Section("Terms, depth of a VALUE");
        section.sentence("A LIST is deeper by 1 than the deepest of its values", TermDepthTest::deepest);
        section.sentence("(1 if it has none)", TermDepthTest::emptyList);
        section.sentence("all others have the depth 0", TermDepthTest::others);
        section.sentence("a VALUE has at most the depth 3", TermDepthTest::atMost);
        section.sentence("Two values are the same when all their bytes are, as they are written.",
                TermDepthTest::same);
        section.end();
    }

    private static void isValue(Check check, int... value) {
        Client x = Client.with(Wire.ANY);
        check.bytes("WRITE " + Arrays.toString(value), x.send(Wire.write(1, value)), 0);
        check.bytes("READ " + Arrays.toString(value), x.send(Wire.read(1)), Wire.valueAnswer(value));
    }

    private static void isTooDeep(Check check, int... value) {
        Client x = Client.with(Wire.ANY);
        check.bytes("WRITE " + Arrays.toString(value), x.send(Wire.write(1, value)), 1);
        check.same("the value stays", x.size(1), 1);
    }

    private static void deepest(Check check) {
        isValue(check, Wire.list(DEEP2, DEEP1, Wire.flag(1)));
        isValue(check, Wire.list(DEEP1, DEEP1, DEEP2, DEEP2));
        isValue(check, Wire.list(Wire.list(DEEP1, DEEP1), Wire.list(DEEP1), Wire.list(DEEP1)));
        isTooDeep(check, Wire.list(DEEP3, DEEP1, DEEP1));
        isTooDeep(check, Wire.list(DEEP1, DEEP3, DEEP1));
        isTooDeep(check, Wire.list(DEEP1, Wire.flag(1), DEEP3));
        isTooDeep(check, Wire.list(Wire.list(Wire.empty(), DEEP1, DEEP2)));
    }

    private static void emptyList(Check check) {
        isValue(check, DEEP1);
        isValue(check, DEEP2);
        isValue(check, DEEP3);
        isTooDeep(check, Wire.list(DEEP3));
        isTooDeep(check, Wire.list(Wire.list(Wire.list(Wire.empty(), DEEP1))));
    }

    private static void others(Check check) {
        int[][] values = {Wire.empty(), Wire.flag(1), Wire.small(1), Wire.large(1), Wire.text(1), Wire.noText()};
        for (int[] value : values) {
            isValue(check, value);
            isValue(check, Wire.list(value));
            isValue(check, Wire.list(Wire.list(value)));
            isValue(check, Wire.list(Wire.list(Wire.list(value, value))));
            isTooDeep(check, Wire.list(Wire.list(Wire.list(Wire.list(value)))));
        }
    }

    private static void atMost(Check check) {
        isValue(check, DEEP3);
        isTooDeep(check, Wire.list(DEEP3));
        isTooDeep(check, Wire.list(Wire.list(DEEP3)));
        int[] deepest = DEEP3;
        while (Wire.write(1, Wire.list(deepest)).length <= 64) {
            deepest = Wire.list(deepest);
        }
        isTooDeep(check, deepest);
        Client x = Client.with(Wire.SMALL);
        check.bytes("of no node", x.send(Wire.write(9, Wire.list(DEEP3))), 1);
        check.bytes("of a folder", x.send(Wire.write(0, Wire.list(DEEP3))), 1);
        check.bytes("of another type", x.send(Wire.write(1, Wire.list(DEEP3))), 1);
        check.bytes("of another type, not too deep", x.send(Wire.write(1, DEEP3)), 5);
    }

    /** Each value is written after the one before it, which is not the same, and then once more. */
    private static void same(Check check) {
        int[][] values = {Wire.small(0), Wire.large(0), Wire.noText(), Wire.small(-1), Wire.noText(), Wire.text(),
            Wire.list(), Wire.small(0), Wire.text(), Wire.text(0), Wire.text(0, 0), Wire.list(),
            Wire.list(Wire.empty()), Wire.list(Wire.flag(0)), Wire.list(Wire.flag(1)), Wire.list(Wire.flag(1),
            Wire.empty()), Wire.list(Wire.list()), Wire.list(Wire.text()), Wire.flag(1), Wire.flag(0), Wire.empty(),
            Wire.small(1), Wire.small(1 << 24), Wire.small(0), Wire.large(1L << 56), Wire.large(0),
            Wire.text(0, 0, 0, 0), Wire.text(1, 2, 3), Wire.text(1, 2, 4), Wire.text(9, 2, 4), Wire.text(9),
            Wire.empty()};
        for (int i = 1; i < values.length; i++) {
            String what = Arrays.toString(values[i]);
            Client x = Client.with(Wire.ANY);
            x.send(Wire.write(1, values[i - 1]));
            x.send(Wire.watch(1, 4, 1));
            x.send(Wire.write(1, values[i]));
            check.same("another: " + what, x.queue(0), 2);
            x.send(Wire.write(1, values[i]));
            check.same("the same: " + what, x.queue(0), 2);
        }
    }
}
