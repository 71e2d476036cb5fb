/** Terms, the service 1 READ. */
public final class ServiceReadTest {
    public static void main(String[] args) {
        Section section = new Section("Terms, 1 READ");
        section.sentence("3 if it is no node's", ServiceReadTest::noNode);
        section.sentence("4 if that is a folder", ServiceReadTest::folder);
        section.sentence("else 0 and the value", ServiceReadTest::value);
        section.end();
    }

    private static void noNode(Check check) {
        Client x = Client.with(Wire.SMALL);
        for (int node : new int[] {2, 3, 14, 15, 16, 17, 128, 255}) {
            check.bytes("node " + node, x.send(Wire.read(node)), 3);
        }
        x.folder(0);
        check.bytes("node 2 is one now", x.send(Wire.read(2)), 4);
        check.bytes("node 3 is none yet", x.send(Wire.read(3)), 3);
    }

    private static void folder(Check check) {
        Client x = Client.with(Wire.SMALL);
        x.folder(0);
        x.folder(2);
        for (int node : new int[] {0, 2, 3}) {
            check.bytes("node " + node, x.send(Wire.read(node)), 4);
        }
    }

    private static void value(Check check) {
        Client x = Client.with(Wire.SMALL, Wire.SMALL, Wire.TEXT);
        x.poke(1, 11);
        x.poke(2, -22);
        check.bytes("node 1", x.send(Wire.read(1)), Wire.valueAnswer(Wire.small(11)));
        check.bytes("node 2", x.send(Wire.read(2)), Wire.valueAnswer(Wire.small(-22)));
        check.bytes("again", x.send(Wire.read(2)), Wire.valueAnswer(Wire.small(-22)));
        int[] longest = new int[56];
        java.util.Arrays.fill(longest, 250);
        x.send(Wire.write(3, Wire.text(longest)));
        check.bytes("the longest", x.send(Wire.read(3)), Wire.valueAnswer(Wire.text(longest)));
        x.send(Wire.write(3, Wire.text(1)));
        check.bytes("a shorter one after it", x.send(Wire.read(3)), Wire.valueAnswer(Wire.text(1)));
    }
}
