/** Promise 12: queue. */
public final class Promise12QueueTest {
    public static void main(String[] args) {
        Section section = new Section("Promise 12");
        section.sentence("How many notices item i has", Promise12QueueTest::howMany);
        section.sentence("REFUSED if there is no such item", Promise12QueueTest::noSuchItem);
        section.end();
    }

    private static void howMany(Check check) {
        Client x = Client.with(Wire.SMALL);
        for (int i = 0; i < 6; i++) {
            x.send(Wire.watch(1, i, 1));
            check.same("item " + i, x.queue(i), 1);
        }
        for (int v = 1; v < 7; v++) {
            x.poke(1, v);
            for (int i = 0; i < 6; i++) {
                int capacity = Math.max(1, Math.min(i, 4));
                check.same("item " + i + " after " + v, x.queue(i), Math.min(capacity, v + 1));
            }
        }
        x.send(Wire.publish());
        int[] due = {0, 0, 1, 3, 4, 4};
        for (int i = 0; i < 6; i++) {
            check.same("item " + i + " after a parcel", x.queue(i), due[i]);
        }
        x.chunk(0, 900, 0, 0, 0);
        check.same("the channel being closed", x.queue(2), 1);
        check.same("an empty queue", x.queue(0), 0);
    }

    private static void noSuchItem(Check check) {
        Client x = Client.with(Wire.SMALL);
        for (int items = 0; items <= 6; items++) {
            for (int i = items; i <= 7; i++) {
                check.same("item " + i + " of " + items, x.queue(i), -1);
            }
            for (int i : new int[] {-1, -2, 256, Integer.MIN_VALUE, Integer.MAX_VALUE}) {
                check.same("item " + i, x.queue(i), -1);
            }
            x.send(Wire.watch(1, 1, 1));
        }
        x.open();
        check.same("opened", x.queue(0), -1);
        x.send(Wire.watch(1, 1, 1));
        check.same("one again", x.queue(0), 1);
        check.same("no second", x.queue(1), -1);
    }
}
