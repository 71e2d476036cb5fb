/** Terms: NAMES of nodes. */
public final class TermNameTest {
    public static void main(String[] args) {
        Section section = new Section("Terms, NAME");
        section.sentence("A NAME of a node is written as 0 and a byte, its number", TermNameTest::shorter);
        section.sentence("or as 1, a byte, and a number of 2 bytes", TermNameTest::longer);
        section.sentence("A NAME of a node is written as", TermNameTest::noOtherForm);
        section.sentence("a number of 2 bytes, not signed", TermNameTest::notSigned);
        section.sentence("then it is the node with that number if the byte is 0", TermNameTest::byteZero);
        section.sentence("otherwise no node's name", TermNameTest::otherByte);
        section.end();
    }

    /** A folder as node 1 and a FLAG as node 2. */
    private static Client server() {
        Client x = new Client();
        x.folder(0);
        x.variable(1, Wire.FLAG);
        return x;
    }

    /** Sends a message of each service that has a name. */
    private static void inAllServices(Check check, String what, int[] name, int[]... due) {
        check.bytes("READ " + what, server().send(Wire.join(Wire.bytes(1), name)), due[0]);
        check.bytes("WRITE " + what, server().send(Wire.join(Wire.bytes(2), name, Wire.flag(1))), due[1]);
        check.bytes("BROWSE " + what, server().send(Wire.join(Wire.bytes(3), name, Wire.bytes(1))), due[2]);
        check.bytes("WATCH " + what, server().send(Wire.join(Wire.bytes(4), name, Wire.bytes(1, 1))), due[3]);
    }

    private static void isVariable(Check check, String what, int[] name) {
        inAllServices(check, what, name, Wire.valueAnswer(Wire.flag(0)), Wire.bytes(0), Wire.namesAnswer(1),
                Wire.bytes(0, 0));
    }

    private static void isFolder(Check check, String what, int[] name, int... parents) {
        int[] four = Wire.bytes(4);
        inAllServices(check, what, name, four, four, Wire.namesAnswer(parents), four);
    }

    private static void hasCode(Check check, String what, int code, int... name) {
        int[] due = Wire.bytes(code);
        inAllServices(check, what, name, due, due, due, due);
    }

    private static void shorter(Check check) {
        isFolder(check, "0", Wire.name(0));
        isFolder(check, "1", Wire.name(1), 0);
        isVariable(check, "2", Wire.name(2));
        for (int node : new int[] {3, 15, 16, 127, 128, 254, 255}) {
            hasCode(check, "node " + node, 3, Wire.name(node));
        }
        check.bytes("cut behind the 0", server().send(1, 0), 1);
        check.bytes("a byte more", server().send(1, 0, 2, 0), 1);
    }

    private static void longer(Check check) {
        isFolder(check, "0", Wire.longName(0, 0));
        isFolder(check, "1", Wire.longName(0, 1), 0);
        isVariable(check, "2", Wire.longName(0, 2));
        check.bytes("cut behind the 1", server().send(1, 1), 1);
        check.bytes("cut behind the byte", server().send(1, 1, 0), 1);
        check.bytes("cut in the number", server().send(1, 1, 0, 2), 1);
        check.bytes("a byte more", server().send(1, 1, 0, 2, 0, 0), 1);
    }

    private static void noOtherForm(Check check) {
        for (int form : new int[] {2, 3, 127, 128, 254, 255}) {
            hasCode(check, "form " + form + " and a byte", 1, form, 2);
            hasCode(check, "form " + form + " and three", 1, form, 0, 2, 0);
            hasCode(check, "form " + form + " alone", 1, form);
        }
    }

    private static void notSigned(Check check) {
        for (int number : new int[] {3, 15, 16, 255, 256, 257, 258, 32767, 32768, 32770, 65280, 65534, 65535}) {
            hasCode(check, "number " + number, 3, Wire.longName(0, number));
        }
    }

    private static void byteZero(Check check) {
        Client x = new Client();
        for (int node = 1; node < 16; node++) {
            x.variable(0, Wire.SMALL);
            x.poke(node, 100 + node);
        }
        for (int node = 1; node < 16; node++) {
            check.bytes("node " + node, x.send(Wire.join(Wire.bytes(1), Wire.longName(0, node))),
                    Wire.valueAnswer(Wire.small(100 + node)));
        }
        check.bytes("node 16", x.send(Wire.join(Wire.bytes(1), Wire.longName(0, 16))), 3);
    }

    private static void otherByte(Check check) {
        for (int b : new int[] {1, 2, 127, 128, 254, 255}) {
            for (int node = 0; node < 3; node++) {
                hasCode(check, "byte " + b + ", node " + node, 3, Wire.longName(b, node));
            }
        }
    }
}
