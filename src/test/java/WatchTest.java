/** Promise 7, the service WATCH, and the queues of items. */
public final class WatchTest {
    public static void main(String[] args) {
        Check check = new Check();
        codes(check);
        firstNotice(check);
        capacities(check);
        for (int capacity = 1; capacity <= 4; capacity++) {
            for (int changes = 0; changes < 12; changes++) {
                discarding(check, capacity, changes, 0);
                discarding(check, capacity, changes, 1);
                discarding(check, capacity, changes, 255);
            }
        }
        marksAfterPublish(check);
        check.end();
    }

    private static void codes(Check check) {
        Client client = new Client();
        client.server.variable(0, 6);
        check.bytes("no node", client.send(Wire.watch(2, 1, 1)), 3);
        check.bytes("a folder", client.send(Wire.watch(0, 1, 1)), 4);
        for (int i = 0; i < 6; i++) {
            check.bytes("item " + i, client.send(Wire.watch(1, 1, 1)), 0, i);
        }
        check.bytes("a seventh", client.send(Wire.watch(1, 1, 1)), 6);
        check.bytes("a seventh of no node", client.send(Wire.watch(2, 1, 1)), 3);
        check.bytes("a seventh of a folder", client.send(Wire.watch(0, 1, 1)), 4);
        check.same("none", client.server.queue(6), -1);
    }

    private static void firstNotice(Check check) {
        Client client = new Client();
        client.server.variable(0, 12);
        client.send(Wire.write(1, Wire.text(9, 8)));
        client.send(Wire.watch(1, 1, 0));
        check.same("one notice", client.server.queue(0), 1);
        client.send(Wire.write(1, Wire.text(9, 8)));
        check.bytes("of the value as it was", client.send(Wire.publish()),
                Wire.parcel(1, Wire.notice(0, Wire.text(9, 8), 0)));
        check.bytes("none more", client.send(Wire.publish()), 7);
    }

    private static void capacities(Check check) {
        int[] bytes = {0, 1, 2, 3, 4, 5, 127, 128, 255};
        int[] due = {1, 1, 2, 3, 4, 4, 4, 4, 4};
        for (int i = 0; i < bytes.length; i++) {
            Client client = new Client();
            client.server.variable(0, 6);
            client.send(Wire.watch(1, bytes[i], 0));
            for (int v = 1; v < 8; v++) {
                client.server.poke(1, v);
            }
            check.same("capacity byte " + bytes[i], client.server.queue(0), due[i]);
        }
    }

    /** The value goes 0, 1, 2 .. changes; the queue begins with the notice of 0. */
    private static void discarding(Check check, int capacity, int changes, int order) {
        Client client = new Client();
        client.server.variable(0, 6);
        client.send(Wire.watch(1, capacity, order));
        for (int v = 1; v <= changes; v++) {
            client.server.poke(1, v);
        }
        int held = Math.min(capacity, changes + 1);
        boolean marked = changes + 1 > capacity && capacity > 1;
        int[] all = new int[0];
        for (int i = 0; i < held; i++) {
            int oldest = changes + 1 - held + i;
            int newest = i == held - 1 ? changes : i;
            int mark = marked && i == (order != 0 ? 0 : held - 1) ? 1 : 0;
            all = Wire.join(all, Wire.notice(0, Wire.small(order != 0 ? oldest : newest), mark));
        }
        String what = "capacity " + capacity + ", order " + order + ", changes " + changes;
        check.bytes(what, publishedNotices(client), all);
    }

    private static int[] publishedNotices(Client client) {
        int[] all = new int[0];
        for (int n = 0; n < 4; n++) {
            int[] answer = client.send(Wire.publish());
            if (answer[0] != 0) {
                return all;
            }
            all = Wire.join(all, java.util.Arrays.copyOfRange(answer, 6, answer.length));
        }
        return all;
    }

    /** A mark stays with its notice when others before it have gone, and fresh notices have none. */
    private static void marksAfterPublish(Check check) {
        Client client = new Client();
        client.server.variable(0, 1);
        client.send(Wire.watch(1, 4, 0));
        for (int v = 1; v <= 5; v++) {
            client.server.poke(1, v % 2);
        }
        client.send(Wire.publish());
        client.server.poke(1, 0);
        check.bytes("the marked one, then one without", client.send(Wire.publish()),
                Wire.parcel(2, Wire.notice(0, Wire.flag(1), 1), Wire.notice(0, Wire.flag(0), 0)));
        Client other = new Client();
        other.server.variable(0, 6);
        other.send(Wire.watch(1, 2, 1));
        other.server.poke(1, 1);
        other.server.poke(1, 2);
        other.send(Wire.publish());
        other.server.poke(1, 3);
        check.bytes("a row used again has no mark", other.send(Wire.publish()),
                Wire.parcel(2, Wire.notice(0, Wire.small(3), 0)));
    }
}
