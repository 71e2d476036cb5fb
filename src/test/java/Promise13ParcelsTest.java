/** Promise 13: parcels. */
public final class Promise13ParcelsTest {
    public static void main(String[] args) {
        Check check = new Check();
        Client client = new Client();
        ChunkedNodes x = client.server;
        x.variable(0, 6);
        client.send(Wire.watch(1, 1, 1));
        check.same("none", x.parcels(), 0);
        for (int n = 1; n < 6; n++) {
            client.send(Wire.publish());
            check.same("after " + n, x.parcels(), Math.min(n, 3));
            x.poke(1, n);
        }
        client.send(Wire.publish(4));
        check.same("one acknowledged, one new", x.parcels(), 3);
        client.send(Wire.publish(4));
        check.same("again: none", x.parcels(), 3);
        client.send(Wire.publish(5, 5));
        check.same("one twice", x.parcels(), 2);
        client.send(Wire.publish(3, 6, 7, 0));
        check.same("all", x.parcels(), 0);
        check.end();
    }
}
