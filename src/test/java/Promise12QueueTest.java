/** Promise 12: queue. */
public final class Promise12QueueTest {
    public static void main(String[] args) {
        Check check = new Check();
        Client client = new Client();
        ChunkedNodes x = client.server;
        x.variable(0, 6);
        check.same("no items", x.queue(0), -1);
        for (int i = 0; i < 6; i++) {
            client.send(Wire.watch(1, i, 1));
            check.same("item " + i, x.queue(i), 1);
            check.same("no item " + (i + 1), x.queue(i + 1), -1);
        }
        for (int i : new int[] {-1, 6, 7, Integer.MIN_VALUE, Integer.MAX_VALUE}) {
            check.same("no item " + i, x.queue(i), -1);
        }
        for (int v = 1; v < 7; v++) {
            x.poke(1, v);
            for (int i = 0; i < 6; i++) {
                int capacity = Math.max(1, Math.min(i, 4));
                check.same("item " + i + " after " + v, x.queue(i), Math.min(capacity, v + 1));
            }
        }
        client.send(Wire.publish());
        int[] due = {0, 0, 1, 3, 4, 4};
        for (int i = 0; i < 6; i++) {
            check.same("item " + i + " after a parcel", x.queue(i), due[i]);
        }
        check.end();
    }
}
