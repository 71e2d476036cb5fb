/** Promise 15: size. */
public final class Promise15SizeTest {
    public static void main(String[] args) {
        Section section = new Section("Promise 15");
        section.sentence("How many bytes the value of a node has, as it is written", Promise15SizeTest::howMany);
        section.sentence("REFUSED if it is no variable", Promise15SizeTest::noVariable);
        section.end();
    }

    private static void sizeOf(Check check, Client x, int[] value, int due) {
        x.send(Wire.write(1, value));
        check.same("size of " + java.util.Arrays.toString(value), x.size(1), due);
    }

    private static void howMany(Check check) {
        Client x = Client.with(Wire.ANY, Wire.FLAG, Wire.SMALL, Wire.LARGE, Wire.TEXT);
        int[] first = {1, 2, 5, 9, 5};
        for (int i = 0; i < first.length; i++) {
            check.same("at first, node " + (i + 1), x.size(i + 1), first[i]);
        }
        sizeOf(check, x, Wire.flag(7), 2);
        sizeOf(check, x, Wire.small(-1), 5);
        sizeOf(check, x, Wire.large(-1), 9);
        sizeOf(check, x, Wire.noText(), 5);
        sizeOf(check, x, Wire.text(), 5);
        sizeOf(check, x, Wire.text(0), 6);
        sizeOf(check, x, Wire.text(new int[56]), 61);
        sizeOf(check, x, Wire.list(), 5);
        sizeOf(check, x, Wire.list(Wire.flag(1), Wire.list(), Wire.large(3)), 21);
        sizeOf(check, x, Wire.list(Wire.list(Wire.list(Wire.text(new int[41])))), 61);
        sizeOf(check, x, Wire.empty(), 1);
        x.poke(4, Long.MAX_VALUE);
        check.same("after poke", x.size(4), 9);
        x.send(Wire.write(5, Wire.text(1, 2, 3)));
        check.same("a text of 3", x.size(5), 8);
        x.send(Wire.write(5, Wire.small(3)));
        check.same("not written", x.size(5), 8);
        x.chunk(0, 900, 0, 0, 0);
        check.same("the channel being closed", x.size(5), 8);
    }

    private static void noVariable(Check check) {
        Client x = Client.with(Wire.SMALL);
        x.folder(0);
        check.same("node 0", x.size(0), -1);
        check.same("a folder", x.size(2), -1);
        for (int node : new int[] {3, 14, 15, 16, 17, 256, Integer.MAX_VALUE, -1, -2, Integer.MIN_VALUE}) {
            check.same("no node " + node, x.size(node), -1);
        }
        for (int node = 3; node < 16; node++) {
            check.same("not yet " + node, x.size(node), -1);
            x.variable(0, Wire.SMALL);
            check.same("now " + node, x.size(node), 5);
        }
        check.same("16", x.size(16), -1);
    }
}
