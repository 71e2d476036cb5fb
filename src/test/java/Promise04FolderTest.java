/** Promise 4: folder. */
public final class Promise04FolderTest {
    public static void main(String[] args) {
        Section section = new Section("Promise 4");
        section.sentence("Makes a folder in a folder", Promise04FolderTest::makes);
        section.sentence("answers its number, the least that no node has", Promise04FolderTest::numbers);
        section.sentence("REFUSED if parent is no folder", Promise04FolderTest::noFolder);
        section.sentence("or there are 16 nodes", Promise04FolderTest::sixteen);
        section.end();
    }

    private static void makes(Check check) {
        Client x = new Client();
        x.folder(0);
        x.folder(1);
        check.bytes("1 is a folder", x.send(Wire.read(1)), 4);
        check.bytes("in 0", x.send(Wire.browse(0, 0)), Wire.namesAnswer(1));
        check.bytes("in 1", x.send(Wire.browse(1, 0)), Wire.namesAnswer(2));
        check.bytes("in 2", x.send(Wire.browse(2, 0)), Wire.namesAnswer());
        check.bytes("above 2", x.send(Wire.browse(2, 1)), Wire.namesAnswer(1));
        x.chunk(0, 0, 0, 0, 0);
        check.same("closed", x.isOpen(), false);
        check.same("while the channel is closed", x.folder(2), 3);
    }

    private static void numbers(Check check) {
        Client x = new Client();
        for (int node = 1; node < 16; node++) {
            check.same("refused", x.folder(node), -1);
            check.same("node " + node, node % 2 == 1 ? x.folder(node - 1) : x.folder(0), node);
        }
        Client y = new Client();
        check.same("a variable", y.variable(0, Wire.FLAG), 1);
        check.same("behind a variable", y.folder(0), 2);
        y.open();
        check.same("opened", y.folder(2), 3);
    }

    private static void noFolder(Check check) {
        Client x = Client.with(Wire.ANY, Wire.FLAG, Wire.SMALL, Wire.LARGE, Wire.TEXT);
        for (int parent : new int[] {1, 2, 3, 4, 5}) {
            check.same("a variable, " + parent, x.folder(parent), -1);
        }
        for (int parent : new int[] {6, 7, 14, 15, 16, 17, 256, Integer.MAX_VALUE, -1, -2, -16, Integer.MIN_VALUE}) {
            check.same("no node, " + parent, x.folder(parent), -1);
        }
        check.same("no number was used", x.folder(0), 6);
    }

    private static void sixteen(Check check) {
        Client x = new Client();
        for (int node = 1; node < 16; node++) {
            check.same("node " + node, x.folder(0), node);
        }
        check.same("in 0", x.folder(0), -1);
        check.same("in 15", x.folder(15), -1);
        check.same("once more", x.folder(0), -1);
        x.open();
        check.same("opened anew", x.folder(0), -1);
        x.send(Wire.browse(0, 0));
        check.same("15 in 0", x.answer(1), 15);
        check.bytes("none in 15", x.send(Wire.browse(15, 0)), 0, 0);
    }
}
