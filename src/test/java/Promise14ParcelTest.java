/** Promise 14: parcel. */
public final class Promise14ParcelTest {
    public static void main(String[] args) {
        Check check = new Check();
        Client client = new Client();
        ChunkedNodes x = client.server;
        x.variable(0, 6);
        client.send(Wire.watch(1, 1, 1));
        due(check, x);
        int[][] kept = {{1}, {1, 2}, {1, 2, 3}, {2, 3, 4}, {3, 4, 5}};
        for (int n = 0; n < kept.length; n++) {
            client.send(Wire.publish());
            due(check, x, kept[n]);
            x.poke(1, n + 1);
        }
        client.send(Wire.publish(4));
        due(check, x, 3, 5, 6);
        x.poke(1, 99);
        client.send(Wire.publish(3, 6));
        due(check, x, 5, 7);
        client.send(Wire.publish(7, 5));
        due(check, x);
        x.poke(1, 100);
        client.send(Wire.publish());
        due(check, x, 8);
        check.end();
    }

    private static void due(Check check, ChunkedNodes x, int... numbers) {
        for (int k = 0; k < numbers.length; k++) {
            check.same("parcel " + k, x.parcel(k), numbers[k]);
        }
        for (int k : new int[] {-1, numbers.length, 3, 4, Integer.MIN_VALUE, Integer.MAX_VALUE}) {
            check.same("no parcel " + k, x.parcel(k), -1);
        }
    }
}
