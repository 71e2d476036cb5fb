/** Promise 5: variable. */
public final class Promise05VariableTest {
    private static final int[] TYPES = {0, 1, 6, 8, 12};

    public static void main(String[] args) {
        Section section = new Section("Promise 5");
        section.sentence("Makes a variable in a folder", Promise05VariableTest::makes);
        section.sentence("answers its number, the least that no node has", Promise05VariableTest::numbers);
        section.sentence("REFUSED if parent is no folder", Promise05VariableTest::noFolder);
        section.sentence("type is not 0, 1, 6, 8 or 12", Promise05VariableTest::types);
        section.sentence("or there are 16 nodes", Promise05VariableTest::sixteen);
        section.end();
    }

    private static void makes(Check check) {
        Client x = new Client();
        x.folder(0);
        for (int type : TYPES) {
            x.variable(1, type);
        }
        int[] sizes = {1, 2, 5, 9, 5};
        for (int i = 0; i < TYPES.length; i++) {
            check.same("size of type " + TYPES[i], x.size(2 + i), sizes[i]);
            check.bytes("above " + (2 + i), x.send(Wire.browse(2 + i, 1)), Wire.namesAnswer(1));
            check.same("its kind", x.send(Wire.read(2 + i))[1], TYPES[i]);
        }
        check.bytes("in 1", x.send(Wire.browse(1, 0)), Wire.namesAnswer(2, 3, 4, 5, 6));
        x.chunk(0, 0, 0, 0, 0);
        check.same("closed", x.isOpen(), false);
        check.same("while the channel is closed", x.variable(1, 6), 7);
    }

    private static void numbers(Check check) {
        Client x = new Client();
        for (int node = 1; node < 16; node++) {
            check.same("refused", x.variable(0, 7), -1);
            check.same("refused", x.variable(node, 6), -1);
            check.same("node " + node, x.variable(0, TYPES[node % 5]), node);
        }
        Client y = new Client();
        check.same("a folder", y.folder(0), 1);
        check.same("behind a folder", y.variable(1, 12), 2);
        y.open();
        check.same("opened", y.variable(0, 12), 3);
    }

    private static void noFolder(Check check) {
        for (int type : TYPES) {
            Client x = Client.with(TYPES);
            for (int parent : new int[] {1, 2, 3, 4, 5}) {
                check.same("a variable, " + parent, x.variable(parent, type), -1);
            }
            for (int parent : new int[] {6, 7, 14, 15, 16, 17, 256, Integer.MAX_VALUE, -1, -2, Integer.MIN_VALUE}) {
                check.same("no node, " + parent, x.variable(parent, type), -1);
            }
            check.same("no number was used", x.variable(0, type), 6);
        }
    }

    private static void types(Check check) {
        Client x = new Client();
        for (int type = -20; type < 270; type++) {
            boolean known = type == 0 || type == 1 || type == 6 || type == 8 || type == 12;
            if (!known) {
                check.same("type " + type, x.variable(0, type), -1);
            }
        }
        for (int type : new int[] {Integer.MIN_VALUE, Integer.MAX_VALUE, -256, 1 << 16, 1 << 31 | 6}) {
            check.same("type " + type, x.variable(0, type), -1);
        }
        for (int i = 0; i < TYPES.length; i++) {
            check.same("type " + TYPES[i], x.variable(0, TYPES[i]), i + 1);
        }
    }

    private static void sixteen(Check check) {
        Client x = new Client();
        for (int node = 1; node < 16; node++) {
            check.same("node " + node, x.variable(0, 12), node);
        }
        for (int type : TYPES) {
            check.same("type " + type, x.variable(0, type), -1);
        }
        check.same("node 15 stays", x.size(15), 5);
        check.same("no node 16", x.size(16), -1);
        Client y = new Client();
        for (int node = 1; node < 15; node++) {
            y.folder(0);
        }
        check.same("the 16th", y.variable(14, 6), 15);
        check.same("the 17th", y.variable(14, 6), -1);
    }
}
