/** Promise 4: folder. */
public final class Promise04FolderTest {
    public static void main(String[] args) {
        Check check = new Check();
        ChunkedNodes x = new ChunkedNodes();
        check.same("in node 0", x.folder(0), 1);
        check.same("in a folder", x.folder(1), 2);
        check.same("a variable", x.variable(2, 1), 3);
        check.same("in a variable", x.folder(3), -1);
        check.same("in no node", x.folder(4), -1);
        check.same("below 0", x.folder(-1), -1);
        check.same("above all", x.folder(16), -1);
        check.same("least int", x.folder(Integer.MIN_VALUE), -1);
        check.same("greatest int", x.folder(Integer.MAX_VALUE), -1);
        for (int i = 4; i < 16; i++) {
            check.same("node " + i, x.folder(i % 3), i);
        }
        check.same("16 nodes", x.folder(0), -1);
        check.same("16 nodes, in the last one", x.folder(15), -1);
        check.same("16 nodes, a variable", x.variable(0, 1), -1);
        Client client = new Client(x);
        check.bytes("what is in 1", client.send(Wire.browse(1, 0)), 0, 5, 0, 2, 0, 4, 0, 7, 0, 10, 0, 13);
        check.bytes("what 15 is in", client.send(Wire.browse(15, 1)), 0, 1, 0, 0);
        closedChannel(check);
        check.end();
    }

    private static void closedChannel(Check check) {
        ChunkedNodes x = new ChunkedNodes();
        x.chunk(0, 1, 1, 0, 0);
        x.chunk(0, 1, 1, 0, 0);
        check.same("closed", x.isOpen(), false);
        check.same("a folder all the same", x.folder(0), 1);
    }
}
