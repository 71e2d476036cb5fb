/** Terms, the service 3 BROWSE. */
public final class ServiceBrowseTest {
    public static void main(String[] args) {
        Section section = new Section("Terms, 3 BROWSE");
        section.sentence("a byte which is 0 or 1", ServiceBrowseTest::zeroOrOne);
        section.sentence("3 likewise", ServiceBrowseTest::noNode);
        section.sentence("how many names follow", ServiceBrowseTest::howMany);
        section.sentence("each in the shorter way", ServiceBrowseTest::shorterWay);
        section.sentence("of the nodes whose parent it is, the lesser numbers first (byte 0)",
                ServiceBrowseTest::children);
        section.sentence("or of its parent (byte 1; none for node 0)", ServiceBrowseTest::parent);
        section.end();
    }

    /** 0: 1, 4; 1: 2, 3, 6; 3: 5. Nodes 1 and 3 are folders, the others variables. */
    private static Client tree() {
        Client x = new Client();
        x.folder(0);
        x.variable(1, Wire.SMALL);
        x.folder(1);
        x.variable(0, Wire.FLAG);
        x.variable(3, Wire.LARGE);
        x.variable(1, Wire.ANY);
        return x;
    }

    private static void zeroOrOne(Check check) {
        Client x = tree();
        for (int b : new int[] {2, 3, 127, 128, 254, 255}) {
            for (int node : new int[] {0, 1, 2, 9}) {
                check.bytes("byte " + b + ", node " + node, x.send(Wire.browse(node, b)), 1);
            }
        }
    }

    private static void noNode(Check check) {
        Client x = tree();
        for (int node : new int[] {7, 15, 16, 255}) {
            check.bytes("in " + node, x.send(Wire.browse(node, 0)), 3);
            check.bytes("above " + node, x.send(Wire.browse(node, 1)), 3);
        }
        check.bytes("a folder is no fault", x.send(Wire.browse(3, 1)), Wire.namesAnswer(1));
        check.bytes("a variable is none", x.send(Wire.browse(2, 1)), Wire.namesAnswer(1));
    }

    private static void howMany(Check check) {
        Client x = new Client();
        check.bytes("none", x.send(Wire.browse(0, 0)), 0, 0);
        int[] names = {};
        for (int node = 1; node < 16; node++) {
            x.variable(0, Wire.TEXT);
            names = Wire.join(names, Wire.name(node));
            x.send(Wire.browse(0, 0));
            check.same(node + " names", x.answer(1), node);
            check.same("length for " + node, x.answerLength(), 2 + 2 * node);
        }
        check.bytes("15", x.send(Wire.browse(0, 0)), Wire.join(Wire.bytes(0, 15), names));
    }

    private static void shorterWay(Check check) {
        Client x = tree();
        check.bytes("asked in the longer way", x.send(Wire.join(Wire.bytes(3), Wire.longName(0, 1), Wire.bytes(0))),
                0, 3, 0, 2, 0, 3, 0, 6);
        check.bytes("the parent", x.send(Wire.join(Wire.bytes(3), Wire.longName(0, 1), Wire.bytes(1))), 0, 1, 0, 0);
    }

    private static void children(Check check) {
        Client x = tree();
        check.bytes("in 0, not what is deeper", x.send(Wire.browse(0, 0)), Wire.namesAnswer(1, 4));
        check.bytes("in 1", x.send(Wire.browse(1, 0)), Wire.namesAnswer(2, 3, 6));
        check.bytes("in 3", x.send(Wire.browse(3, 0)), Wire.namesAnswer(5));
        for (int variable : new int[] {2, 4, 5, 6}) {
            check.bytes("in a variable, " + variable, x.send(Wire.browse(variable, 0)), 0, 0);
        }
        x.folder(3);
        check.bytes("in an empty folder", x.send(Wire.browse(7, 0)), 0, 0);
        check.bytes("one more in 3", x.send(Wire.browse(3, 0)), Wire.namesAnswer(5, 7));
    }

    private static void parent(Check check) {
        Client x = tree();
        check.bytes("none for node 0", x.send(Wire.browse(0, 1)), 0, 0);
        int[] due = {0, 0, 1, 1, 0, 3, 1};
        for (int node = 1; node < due.length; node++) {
            check.bytes("above " + node, x.send(Wire.browse(node, 1)), Wire.namesAnswer(due[node]));
        }
    }
}
