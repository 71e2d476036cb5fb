/** Promise 7, messages: those without bytes, without a service, or not exactly as written; names. */
public final class MessageTest {
    public static void main(String[] args) {
        Check check = new Check();
        services(check);
        exactly(check);
        names(check);
        check.end();
    }

    private static void services(Check check) {
        Client client = new Client();
        check.bytes("no bytes", client.send(), 1);
        for (int service : new int[] {0, 7, 8, 9, 127, 128, 129, 255}) {
            check.bytes("service " + service, client.send(service), 2);
            check.bytes("service " + service + " and more", client.send(service, 0, 0, 1), 2);
        }
        for (int service = 1; service < 7; service++) {
            check.bytes("nothing behind " + service, client.send(service), 1);
        }
    }

    /** Every message that is as written is sent too short and too long as well. */
    private static void exactly(Check check) {
        Client client = new Client();
        client.server.variable(0, 0);
        int[][] messages = {Wire.read(1), Wire.write(1, Wire.small(5)), Wire.write(1, Wire.large(5)),
            Wire.write(1, Wire.flag(1)), Wire.write(1, Wire.text(7)), Wire.write(1, Wire.noText()),
            Wire.write(1, Wire.list(Wire.flag(1))), Wire.write(1, Wire.empty()), Wire.browse(1, 0),
            Wire.publish(1, 2), Wire.again(1), Wire.read(9), Wire.write(9, Wire.empty()),
            Wire.browse(9, 1), Wire.watch(9, 1, 1), Wire.read(0)};
        for (int[] message : messages) {
            for (int length = 1; length < message.length; length++) {
                int[] shorter = java.util.Arrays.copyOf(message, length);
                check.bytes("short " + java.util.Arrays.toString(shorter), client.send(shorter), 1);
            }
            check.bytes("long", client.send(Wire.join(message, Wire.bytes(0))), 1);
        }
        check.same("the value is as at first", client.server.size(1), 1);
        check.same("no item", client.server.queue(0), -1);
    }

    private static void names(Check check) {
        Client client = new Client();
        client.server.variable(0, 1);
        check.bytes("short", client.send(Wire.read(1)), 0, 1, 0);
        check.bytes("long", client.send(Wire.join(Wire.bytes(1), Wire.longName(0, 1))), 0, 1, 0);
        check.bytes("long, 0", client.send(Wire.join(Wire.bytes(1), Wire.longName(0, 0))), 4);
        check.bytes("long, 2", client.send(Wire.join(Wire.bytes(1), Wire.longName(0, 2))), 3);
        check.bytes("not 257", client.send(Wire.join(Wire.bytes(1), Wire.longName(0, 257))), 3);
        check.bytes("not 65535", client.send(Wire.join(Wire.bytes(1), Wire.longName(0, 65535))), 3);
        check.bytes("not 256", client.send(Wire.join(Wire.bytes(1), Wire.longName(0, 256))), 3);
        for (int space : new int[] {1, 2, 128, 255}) {
            check.bytes("space " + space, client.send(Wire.join(Wire.bytes(1), Wire.longName(space, 1))), 3);
        }
        for (int form : new int[] {2, 3, 128, 254, 255}) {
            check.bytes("form " + form + " alone", client.send(1, form), 1);
            check.bytes("form " + form, client.send(1, form, 1), 1);
            check.bytes("form " + form + ", longer", client.send(1, form, 0, 1, 0), 1);
        }
        for (int node : new int[] {2, 15, 16, 128, 255}) {
            check.bytes("no node " + node, client.send(Wire.read(node)), 3);
        }
        otherServices(check, client);
    }

    private static void otherServices(Check check, Client client) {
        int[] one = Wire.longName(0, 1);
        int[] none = Wire.longName(5, 1);
        check.bytes("WRITE", client.send(Wire.join(Wire.bytes(2), one, Wire.flag(1))), 0);
        check.bytes("WRITE to none", client.send(Wire.join(Wire.bytes(2), none, Wire.flag(0))), 3);
        check.bytes("BROWSE", client.send(Wire.join(Wire.bytes(3), one, Wire.bytes(1))), 0, 1, 0, 0);
        check.bytes("BROWSE none", client.send(Wire.join(Wire.bytes(3), none, Wire.bytes(1))), 3);
        check.bytes("WATCH none", client.send(Wire.join(Wire.bytes(4), none, Wire.bytes(1, 1))), 3);
        check.bytes("WATCH", client.send(Wire.join(Wire.bytes(4), one, Wire.bytes(1, 1))), 0, 0);
        check.bytes("READ", client.send(Wire.join(Wire.bytes(1), one)), 0, 1, 1);
    }
}
