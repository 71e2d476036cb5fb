/** Promise 5: variable. */
public final class Promise05VariableTest {
    public static void main(String[] args) {
        Check check = new Check();
        numbersAndFirstValues(check);
        refusals(check);
        sixteenNodes(check);
        check.end();
    }

    private static void numbersAndFirstValues(Check check) {
        ChunkedNodes x = new ChunkedNodes();
        Client client = new Client(x);
        check.same("ANY", x.variable(0, 0), 1);
        check.same("FLAG", x.variable(0, 1), 2);
        check.same("SMALL", x.variable(0, 6), 3);
        check.same("LARGE", x.variable(0, 8), 4);
        check.same("TEXT", x.variable(0, 12), 5);
        check.bytes("ANY at first", client.send(Wire.read(1)), 0, 0);
        check.bytes("FLAG at first", client.send(Wire.read(2)), 0, 1, 0);
        check.bytes("SMALL at first", client.send(Wire.read(3)), 0, 6, 0, 0, 0, 0);
        check.bytes("LARGE at first", client.send(Wire.read(4)), 0, 8, 0, 0, 0, 0, 0, 0, 0, 0);
        check.bytes("TEXT at first", client.send(Wire.read(5)), 0, 12, 255, 255, 255, 255);
        check.same("a folder", x.folder(0), 6);
        check.same("in a folder", x.variable(6, 8), 7);
        check.bytes("its parent", client.send(Wire.browse(7, 1)), 0, 1, 0, 6);
    }

    private static void refusals(Check check) {
        ChunkedNodes x = new ChunkedNodes();
        x.variable(0, 0);
        for (int type : new int[] {-1, 2, 3, 4, 5, 7, 9, 10, 11, 13, 152, 256, 257, -152,
            Integer.MIN_VALUE, Integer.MAX_VALUE}) {
            check.same("type " + type, x.variable(0, type), -1);
        }
        for (int parent : new int[] {-1, 1, 2, 15, 16, Integer.MIN_VALUE, Integer.MAX_VALUE}) {
            check.same("parent " + parent, x.variable(parent, 6), -1);
        }
        check.same("nothing changed", x.variable(0, 6), 2);
    }

    private static void sixteenNodes(Check check) {
        ChunkedNodes x = new ChunkedNodes();
        for (int i = 1; i < 16; i++) {
            check.same("node " + i, x.variable(0, 12), i);
        }
        check.same("a 17th", x.variable(0, 12), -1);
        check.same("a folder as 17th", x.folder(0), -1);
        check.same("size of the last", x.size(15), 5);
    }
}
