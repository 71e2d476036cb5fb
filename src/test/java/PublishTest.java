/** Promise 7, the services PUBLISH and AGAIN. */
public final class PublishTest {
    public static void main(String[] args) {
        Check check = new Check();
        orderOfNotices(check);
        numbers(check);
        acknowledging(check);
        notAsWritten(check);
        again(check);
        numbersOfFourBytes(check);
        check.end();
    }

    private static Client watching(int items, int capacity) {
        Client client = new Client();
        client.server.variable(0, 6);
        for (int i = 0; i < items; i++) {
            client.send(Wire.watch(1, capacity, 1));
        }
        return client;
    }

    private static void orderOfNotices(Check check) {
        Client client = watching(3, 2);
        client.server.poke(1, 8);
        int[] old = Wire.small(0);
        int[] fresh = Wire.small(8);
        check.bytes("three at most", client.send(Wire.publish()), Wire.parcel(1,
                Wire.notice(0, old, 0), Wire.notice(0, fresh, 0), Wire.notice(1, old, 0)));
        client.server.poke(1, 9);
        int[] newest = Wire.small(9);
        check.bytes("item 0 first again", client.send(Wire.publish()), Wire.parcel(2,
                Wire.notice(0, newest, 0), Wire.notice(1, fresh, 0), Wire.notice(1, newest, 0)));
        check.bytes("what is left", client.send(Wire.publish()), Wire.parcel(3,
                Wire.notice(2, fresh, 1), Wire.notice(2, newest, 0)));
        check.bytes("nothing", client.send(Wire.publish()), 7);
    }

    private static void numbers(Check check) {
        Client client = watching(1, 1);
        for (int n = 1; n <= 20; n++) {
            check.bytes("parcel " + n, client.send(Wire.publish()),
                    Wire.parcel(n, Wire.notice(0, Wire.small(n - 1), 0)));
            check.bytes("no parcel", client.send(Wire.publish(n, n - 1, n - 2)), 7);
            client.server.poke(1, n);
        }
        check.same("all are acknowledged", client.server.parcels(), 0);
    }

    private static void acknowledging(Check check) {
        Client client = watching(1, 1);
        for (int n = 1; n <= 3; n++) {
            client.send(Wire.publish());
            client.server.poke(1, n);
        }
        check.bytes("before the new one is kept", client.send(Wire.publish(2)),
                Wire.parcel(4, Wire.notice(0, Wire.small(3), 0)));
        check.same("1 stays", client.server.parcel(0), 1);
        check.same("3 stays", client.server.parcel(1), 3);
        check.same("4 is new", client.server.parcel(2), 4);
        client.server.poke(1, 99);
        check.bytes("a number that is to come", client.send(Wire.publish(5)),
                Wire.parcel(5, Wire.notice(0, Wire.small(99), 0)));
        check.same("the oldest went", client.server.parcel(0), 3);
        check.same("5 is kept", client.server.parcel(2), 5);
        check.bytes("7, and yet acknowledged", client.send(Wire.publish(0, 5, -1, 3)), 7);
        check.same("one left", client.server.parcels(), 1);
        check.same("it is 4", client.server.parcel(0), 4);
    }

    private static void notAsWritten(Check check) {
        Client client = watching(1, 1);
        client.send(Wire.publish());
        for (int count : new int[] {5, 6, 128, 255}) {
            check.bytes("count " + count, client.send(5, count), 1);
            check.bytes("count " + count, client.send(Wire.join(Wire.bytes(5, count), new int[20])), 1);
        }
        check.bytes("five numbers", client.send(Wire.publish(1, 1, 1, 1, 1)), 1);
        check.bytes("too few", client.send(Wire.join(Wire.bytes(5, 2), Wire.number(1, 4))), 1);
        check.bytes("too many", client.send(Wire.join(Wire.bytes(5, 1), Wire.number(1, 4), Wire.bytes(0))), 1);
        check.same("nothing was acknowledged", client.server.parcels(), 1);
        client.server.poke(1, 5);
        client.send(Wire.join(Wire.bytes(5, 1), Wire.number(1, 4), Wire.bytes(0)));
        check.same("nothing was published", client.server.queue(0), 1);
        check.bytes("four numbers", client.send(Wire.publish(4, 3, 2, 1)),
                Wire.parcel(2, Wire.notice(0, Wire.small(5), 0)));
        check.same("the fourth one counts", client.server.parcel(0), 2);
    }

    private static void again(Check check) {
        Client client = watching(2, 2);
        int[] first = client.send(Wire.publish());
        client.server.poke(1, 1);
        int[] second = client.send(Wire.publish());
        client.server.poke(1, 2);
        check.bytes("as it was", client.send(Wire.again(1)), first);
        check.bytes("twice", client.send(Wire.again(1)), first);
        check.bytes("the second", client.send(Wire.again(2)), second);
        check.same("queues stay", client.server.queue(0), 1);
        for (int number : new int[] {0, 3, -1, 257, 65537, 16777217, Integer.MIN_VALUE}) {
            check.bytes("no parcel " + number, client.send(Wire.again(number)), 8);
        }
        client.send(Wire.publish(1));
        check.bytes("acknowledged", client.send(Wire.again(1)), 8);
        check.bytes("another stays", client.send(Wire.again(2)), second);
        check.same("two are kept", client.server.parcels(), 2);
        for (int v = 3; v < 6; v++) {
            client.server.poke(1, v);
            client.send(Wire.publish());
        }
        check.bytes("gone as the oldest", client.send(Wire.again(2)), 8);
        check.bytes("not as written", client.send(6, 1, 0, 0, 0, 0), 1);
    }

    private static void numbersOfFourBytes(Check check) {
        Client client = watching(1, 1);
        for (int number : new int[] {257, 65537, 16777217, 1 << 31 | 1}) {
            client.send(Wire.publish());
            client.send(Wire.publish(number));
            check.same("not 1 but " + number, client.server.parcels(), 1);
        }
    }
}
