/** Terms, the service 2 WRITE. */
public final class ServiceWriteTest {
    public static void main(String[] args) {
        Section section = new Section("Terms, 2 WRITE");
        section.sentence("3 and 4 likewise", ServiceWriteTest::noVariable);
        section.sentence("5 if the type is not ANY and not the value's kind", ServiceWriteTest::wrongKind);
        section.sentence("else the value becomes the variable's, and 0", ServiceWriteTest::becomes);
        section.end();
    }

    private static void noVariable(Check check) {
        int[][] values = {Wire.empty(), Wire.flag(1), Wire.small(1), Wire.list()};
        for (int[] value : values) {
            Client x = Client.with(Wire.SMALL);
            x.folder(0);
            for (int node : new int[] {3, 15, 16, 255}) {
                check.bytes("no node " + node, x.send(Wire.write(node, value)), 3);
            }
            for (int node : new int[] {0, 2}) {
                check.bytes("folder " + node, x.send(Wire.write(node, value)), 4);
                check.same("without a value", x.size(node), -1);
            }
        }
    }

    private static void wrongKind(Check check) {
        int[][] values = {Wire.empty(), Wire.flag(1), Wire.small(1), Wire.large(1), Wire.text(1), Wire.list()};
        for (int type : new int[] {Wire.FLAG, Wire.SMALL, Wire.LARGE, Wire.TEXT}) {
            for (int[] value : values) {
                Client x = Client.with(type);
                x.send(Wire.watch(1, 4, 1));
                int[] before = x.send(Wire.read(1));
                if (value[0] != type) {
                    check.bytes("type " + type + ", kind " + value[0], x.send(Wire.write(1, value)), 5);
                    check.bytes("the value stays", x.send(Wire.read(1)), before);
                    check.same("no notice", x.queue(0), 1);
                } else {
                    check.bytes("type " + type + " itself", x.send(Wire.write(1, value)), 0);
                }
            }
        }
        for (int[] value : values) {
            check.bytes("ANY, kind " + value[0], Client.with(Wire.ANY).send(Wire.write(1, value)), 0);
        }
        Client x = Client.with(Wire.ANY);
        x.send(Wire.write(1, Wire.small(1)));
        check.bytes("ANY is not bound by its value", x.send(Wire.write(1, Wire.large(1))), 0);
    }

    private static void becomes(Check check) {
        Client x = Client.with(Wire.SMALL, Wire.SMALL, Wire.TEXT);
        check.bytes("another", x.send(Wire.write(1, Wire.small(-7))), 0);
        check.bytes("READ", x.send(Wire.read(1)), Wire.valueAnswer(Wire.small(-7)));
        check.same("poke finds it", x.poke(1, -7), false);
        check.bytes("another node stays", x.send(Wire.read(2)), Wire.valueAnswer(Wire.small(0)));
        check.bytes("the same", x.send(Wire.write(1, Wire.small(-7))), 0);
        check.bytes("an empty text", x.send(Wire.write(3, Wire.text())), 0);
        check.bytes("READ", x.send(Wire.read(3)), Wire.valueAnswer(Wire.text()));
        check.bytes("no text again", x.send(Wire.write(3, Wire.noText())), 0);
        check.bytes("READ", x.send(Wire.read(3)), Wire.valueAnswer(Wire.noText()));
        x.send(Wire.watch(3, 4, 1));
        x.send(Wire.write(3, Wire.noText()));
        check.same("the same gives no notice", x.queue(0), 1);
        x.send(Wire.write(3, Wire.text()));
        check.same("another gives one", x.queue(0), 2);
    }
}
