/** Promise 7, the service BROWSE. */
public final class BrowseTest {
    public static void main(String[] args) {
        Check check = new Check();
        Client client = new Client();
        ChunkedNodes x = client.server;
        x.folder(0);
        x.variable(1, 6);
        x.folder(1);
        x.variable(0, 1);
        x.variable(3, 8);
        x.variable(1, 0);
        check.bytes("in 0", client.send(Wire.browse(0, 0)), 0, 2, 0, 1, 0, 4);
        check.bytes("in 1", client.send(Wire.browse(1, 0)), 0, 3, 0, 2, 0, 3, 0, 6);
        check.bytes("in a variable", client.send(Wire.browse(2, 0)), 0, 0);
        check.bytes("in 3", client.send(Wire.browse(3, 0)), 0, 1, 0, 5);
        check.bytes("above 0", client.send(Wire.browse(0, 1)), 0, 0);
        check.bytes("above 1", client.send(Wire.browse(1, 1)), 0, 1, 0, 0);
        check.bytes("above 3", client.send(Wire.browse(3, 1)), 0, 1, 0, 1);
        check.bytes("above a variable", client.send(Wire.browse(5, 1)), 0, 1, 0, 3);
        check.bytes("no node", client.send(Wire.browse(7, 0)), 3);
        check.bytes("above no node", client.send(Wire.browse(255, 1)), 3);
        for (int b : new int[] {2, 3, 128, 255}) {
            check.bytes("byte " + b, client.send(Wire.browse(1, b)), 1);
            check.bytes("byte " + b + " of no node", client.send(Wire.browse(9, b)), 1);
        }
        all(check);
        check.end();
    }

    private static void all(Check check) {
        Client client = new Client();
        int[] due = Wire.bytes(0, 15);
        for (int i = 1; i < 16; i++) {
            client.server.variable(0, 12);
            due = Wire.join(due, Wire.name(i));
        }
        check.bytes("15 names", client.send(Wire.browse(0, 0)), due);
    }
}
