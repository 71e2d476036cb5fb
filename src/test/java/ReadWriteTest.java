/** Promise 7, the services READ and WRITE. */
public final class ReadWriteTest {
    private static final int[] TYPES = {0, 1, 6, 8, 12};
    private static final int[][] VALUES = {Wire.empty(), Wire.flag(1), Wire.small(-7), Wire.large(1L << 40),
        Wire.text(72, 105), Wire.noText(), Wire.list(Wire.flag(1))};

    public static void main(String[] args) {
        Check check = new Check();
        codes(check);
        for (int type : TYPES) {
            kindsAgainst(check, type);
        }
        noticesOfWrites(check);
        check.end();
    }

    private static void codes(Check check) {
        Client client = new Client();
        client.server.folder(0);
        client.server.variable(1, 6);
        check.bytes("READ no node", client.send(Wire.read(3)), 3);
        check.bytes("READ a folder", client.send(Wire.read(1)), 4);
        check.bytes("READ node 0", client.send(Wire.read(0)), 4);
        check.bytes("WRITE no node", client.send(Wire.write(3, Wire.small(1))), 3);
        check.bytes("WRITE a folder", client.send(Wire.write(1, Wire.small(1))), 4);
        check.bytes("WRITE node 0", client.send(Wire.write(0, Wire.empty())), 4);
        check.bytes("WRITE another kind", client.send(Wire.write(2, Wire.large(1))), 5);
        check.bytes("WRITE", client.send(Wire.write(2, Wire.small(0x01020384))), 0);
        check.bytes("READ", client.send(Wire.read(2)), 0, 6, 0x84, 3, 2, 1);
        check.same("poke finds it there", client.server.poke(2, 0x01020384), false);
    }

    private static void kindsAgainst(Check check, int type) {
        for (int[] value : VALUES) {
            Client client = new Client();
            client.server.variable(0, type);
            client.server.variable(0, type);
            client.send(Wire.read(1));
            int[] before = client.answer();
            boolean fits = type == 0 || type == value[0];
            check.bytes("type " + type + ", kind " + value[0], client.send(Wire.write(1, value)), fits ? 0 : 5);
            check.bytes("read " + type + ", " + value[0], client.send(Wire.read(1)),
                    fits ? Wire.join(Wire.bytes(0), value) : before);
            check.bytes("the other one stays", client.send(Wire.read(2)), before);
        }
    }

    private static void noticesOfWrites(Check check) {
        Client client = new Client();
        client.server.variable(0, 12);
        client.server.variable(0, 12);
        client.send(Wire.watch(1, 4, 0));
        client.send(Wire.write(1, Wire.noText()));
        check.same("the same", client.server.queue(0), 1);
        client.send(Wire.write(1, Wire.text()));
        check.same("another", client.server.queue(0), 2);
        client.send(Wire.write(1, Wire.small(1)));
        client.send(Wire.write(2, Wire.text(1)));
        check.same("another kind, another node", client.server.queue(0), 2);
        client.send(Wire.write(1, Wire.text(5)));
        check.bytes("the values as they were", client.send(Wire.publish()), Wire.parcel(1,
                Wire.notice(0, Wire.noText(), 0), Wire.notice(0, Wire.text(), 0), Wire.notice(0, Wire.text(5), 0)));
    }
}
