/** Promise 15: size. */
public final class Promise15SizeTest {
    public static void main(String[] args) {
        Check check = new Check();
        Client client = new Client();
        ChunkedNodes x = client.server;
        x.variable(0, 0);
        x.variable(0, 1);
        x.variable(0, 6);
        x.variable(0, 8);
        x.variable(0, 12);
        x.folder(0);
        int[] due = {-1, 1, 2, 5, 9, 5, -1, -1};
        for (int i = 0; i < due.length; i++) {
            check.same("node " + i, x.size(i), due[i]);
        }
        for (int i : new int[] {-1, 15, 16, Integer.MIN_VALUE, Integer.MAX_VALUE}) {
            check.same("no node " + i, x.size(i), -1);
        }
        client.send(Wire.write(5, Wire.text(1, 2, 3)));
        check.same("a text of 3", x.size(5), 8);
        client.send(Wire.write(5, Wire.text()));
        check.same("a text of 0", x.size(5), 5);
        client.send(Wire.write(1, Wire.list(Wire.flag(1), Wire.list(), Wire.large(3))));
        check.same("a list", x.size(1), 21);
        client.send(Wire.write(1, Wire.empty()));
        check.same("empty", x.size(1), 1);
        check.end();
    }
}
