/** Terms: NODES. */
public final class TermNodeTest {
    private static final int[] TYPES = {Wire.ANY, Wire.FLAG, Wire.SMALL, Wire.LARGE, Wire.TEXT};

    public static void main(String[] args) {
        Section section = new Section("Terms, NODES");
        section.sentence("NODES 0 .. 15 are folders or variables", TermNodeTest::sixteen);
        section.sentence("node 0 is a folder, which has no parent", TermNodeTest::nodeZero);
        section.sentence("every other one has a folder as its PARENT", TermNodeTest::parents);
        section.sentence("the value's kind is the type, or the type is ANY (0)", TermNodeTest::types);
        section.sentence("At first a FLAG is 0, a SMALL and a LARGE are 0, a TEXT has length -1, an ANY is EMPTY.",
                TermNodeTest::firstValues);
        section.end();
    }

    private static void sixteen(Check check) {
        Client x = new Client();
        for (int node = 1; node < 15; node++) {
            check.same("node " + node, x.folder(node - 1), node);
        }
        check.same("node 15", x.variable(14, Wire.SMALL), 15);
        check.same("a folder as node 16", x.folder(0), -1);
        check.same("a variable as node 16", x.variable(0, Wire.SMALL), -1);
        check.same("15 is there", x.poke(15, 9), true);
        check.bytes("READ 15", x.send(Wire.read(15)), Wire.valueAnswer(Wire.small(9)));
        check.bytes("READ 14", x.send(Wire.read(14)), 4);
        check.bytes("READ 16", x.send(Wire.read(16)), 3);
        check.bytes("BROWSE 15", x.send(Wire.browse(15, 1)), Wire.namesAnswer(14));
        check.bytes("BROWSE 16", x.send(Wire.browse(16, 1)), 3);
    }

    private static void nodeZero(Check check) {
        Client x = new Client();
        check.bytes("READ", x.send(Wire.read(0)), 4);
        check.bytes("WRITE", x.send(Wire.write(0, Wire.empty())), 4);
        check.bytes("WATCH", x.send(Wire.watch(0, 1, 1)), 4);
        check.bytes("no parent", x.send(Wire.browse(0, 1)), 0, 0);
        check.same("no size", x.size(0), -1);
        check.same("no poke", x.poke(0, 1), false);
        check.same("a folder is made in it", x.folder(0), 1);
        check.bytes("still no parent", x.send(Wire.browse(0, 1)), 0, 0);
    }

    private static void parents(Check check) {
        Client x = new Client();
        int[] due = {-1, 0, 1, 1, 0, 2, 4, 4};
        x.folder(0);
        x.folder(1);
        x.variable(1, Wire.TEXT);
        x.folder(0);
        x.variable(2, Wire.ANY);
        x.folder(4);
        x.variable(4, Wire.FLAG);
        for (int node = 1; node < due.length; node++) {
            check.bytes("parent of " + node, x.send(Wire.browse(node, 1)), Wire.namesAnswer(due[node]));
        }
        for (int node : new int[] {3, 5, 7}) {
            check.same("a folder in the variable " + node, x.folder(node), -1);
            check.same("a variable in the variable " + node, x.variable(node, Wire.SMALL), -1);
        }
    }

    private static void types(Check check) {
        int[][] values = {Wire.empty(), Wire.flag(1), Wire.small(5), Wire.large(5), Wire.text(5), Wire.noText(),
            Wire.list(), Wire.list(Wire.small(5))};
        for (int type : TYPES) {
            for (int[] value : values) {
                Client x = Client.with(type);
                boolean fits = type == Wire.ANY || type == value[0];
                int[] due = fits ? Wire.valueAnswer(value) : x.send(Wire.read(1));
                String what = "type " + type + ", kind " + value[0];
                check.bytes(what, x.send(Wire.write(1, value)), fits ? 0 : 5);
                check.bytes(what + ", READ", x.send(Wire.read(1)), due);
            }
        }
        Client x = Client.with(Wire.ANY);
        for (int[] value : values) {
            check.bytes("one ANY takes all", x.send(Wire.write(1, value)), 0);
        }
    }

    private static void firstValues(Check check) {
        Client x = Client.with(TYPES);
        check.bytes("ANY", x.send(Wire.read(1)), 0, 0);
        check.bytes("FLAG", x.send(Wire.read(2)), 0, 1, 0);
        check.bytes("SMALL", x.send(Wire.read(3)), 0, 6, 0, 0, 0, 0);
        check.bytes("LARGE", x.send(Wire.read(4)), 0, 8, 0, 0, 0, 0, 0, 0, 0, 0);
        check.bytes("TEXT", x.send(Wire.read(5)), 0, 12, 255, 255, 255, 255);
        int[] sizes = {1, 2, 5, 9, 5};
        for (int i = 0; i < sizes.length; i++) {
            check.same("size of type " + TYPES[i], x.size(i + 1), sizes[i]);
        }
    }
}
