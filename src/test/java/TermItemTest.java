/** Terms: ITEMS and their queues of NOTICES. */
public final class TermItemTest {
    private static final int NEWEST = 0;
    private static final int OLDEST = 1;

    public static void main(String[] args) {
        Section section = new Section("Terms, ITEMS");
        section.sentence("ITEMS 0 .. 5 each watch a variable", TermItemTest::six);
        section.sentence("with a CAPACITY 1 .. 4", TermItemTest::capacities);
        section.sentence("Whenever the value of a variable becomes one that is not the same", TermItemTest::notTheSame);
        section.sentence("each item that watches it gets a notice of the new value", TermItemTest::eachThatWatches);
        section.sentence("with the mark 0, at the end of its queue", TermItemTest::atTheEnd);
        section.sentence("If the queue was full", TermItemTest::full);
        section.sentence("when the oldest are discarded, the first notice goes, and then the mark of what is the"
                + " first becomes 1", TermItemTest::oldestGo);
        section.sentence("when the newest are, the last notice goes, and the new one has the mark 1",
                TermItemTest::newestGo);
        section.sentence("but with capacity 1 no mark becomes 1", TermItemTest::capacityOne);
        section.end();
    }

    /** A SMALL, which is 0, watched by item 0; then it becomes 1, 2 .. up to the number of changes. */
    private static Client watched(int capacity, int order, int changes) {
        Client x = Client.with(Wire.SMALL);
        x.send(Wire.watch(1, capacity, order));
        pokeAll(x, 1, changes);
        return x;
    }

    private static void pokeAll(Client x, int from, int to) {
        for (int v = from; v <= to; v++) {
            x.poke(1, v);
        }
    }

    private static int[] notice(int v, int mark) {
        return Wire.notice(0, Wire.small(v), mark);
    }

    private static void due(Check check, String what, Client x, int[]... notices) {
        check.same(what + ", how many", x.queue(0), notices.length);
        check.bytes(what, x.publishedNotices(), Wire.join(notices));
    }

    private static void six(Check check) {
        Client x = Client.with(Wire.SMALL, Wire.SMALL, Wire.SMALL, Wire.SMALL, Wire.SMALL, Wire.SMALL);
        for (int i = 0; i < 6; i++) {
            check.bytes("item " + i, x.send(Wire.watch(i + 1, 4, OLDEST)), 0, i);
        }
        check.bytes("no item 6", x.send(Wire.watch(1, 4, OLDEST)), 6);
        for (int i = 0; i < 6; i++) {
            x.poke(i + 1, 5);
            for (int other = 0; other < 6; other++) {
                check.same("item " + other + " after " + i, x.queue(other), other <= i ? 2 : 1);
            }
        }
    }

    private static void capacities(Check check) {
        for (int order = NEWEST; order <= OLDEST; order++) {
            for (int capacity = 1; capacity <= 4; capacity++) {
                Client x = watched(capacity, order, 0);
                for (int v = 1; v < 7; v++) {
                    x.poke(1, v);
                    check.same("capacity " + capacity, x.queue(0), Math.min(capacity, v + 1));
                }
            }
        }
    }

    private static void notTheSame(Check check) {
        Client x = watched(4, OLDEST, 0);
        x.poke(1, 0);
        x.send(Wire.write(1, Wire.small(0)));
        check.same("the same, by both ways", x.queue(0), 1);
        x.poke(1, 1L << 32);
        check.same("the same 4 bytes", x.queue(0), 1);
        x.poke(1, 5);
        check.same("another by poke", x.queue(0), 2);
        x.send(Wire.write(1, Wire.small(6)));
        check.same("another by WRITE", x.queue(0), 3);
        x.send(Wire.write(1, Wire.large(7)));
        check.same("not written", x.queue(0), 3);
        x.poke(1, 5);
        check.same("one that was there earlier", x.queue(0), 4);
        due(check, "all", x, notice(0, 0), notice(5, 0), notice(6, 0), notice(5, 0));
        x.chunk(1, 0, 1, 0, 0);
        check.same("closed", x.isOpen(), false);
        x.poke(1, 8);
        check.same("while the channel is closed", x.queue(0), 1);
    }

    private static void eachThatWatches(Check check) {
        Client x = Client.with(Wire.SMALL, Wire.SMALL);
        x.send(Wire.watch(1, 2, OLDEST));
        x.send(Wire.watch(2, 2, OLDEST));
        x.send(Wire.watch(1, 3, NEWEST));
        x.poke(1, 7);
        check.same("item 0", x.queue(0), 2);
        check.same("item 1 watches another", x.queue(1), 1);
        check.same("item 2", x.queue(2), 2);
        check.bytes("the new value", x.publishedNotices(), Wire.join(notice(0, 0), notice(7, 0),
                Wire.notice(1, Wire.small(0), 0), Wire.notice(2, Wire.small(0), 0),
                Wire.notice(2, Wire.small(7), 0)));
        x.poke(2, 8);
        check.bytes("item 1 alone", x.publishedNotices(), Wire.notice(1, Wire.small(8), 0));
    }

    private static void atTheEnd(Check check) {
        due(check, "up to the capacity", watched(4, OLDEST, 3), notice(0, 0), notice(1, 0), notice(2, 0), notice(3, 0));
        due(check, "the newest go", watched(4, NEWEST, 3), notice(0, 0), notice(1, 0), notice(2, 0), notice(3, 0));
        Client x = watched(4, NEWEST, 3);
        x.send(Wire.publish());
        pokeAll(x, 4, 6);
        due(check, "after three have gone", x, notice(3, 0), notice(4, 0), notice(5, 0), notice(6, 0));
        pokeAll(x, 7, 8);
        due(check, "after all have gone", x, notice(7, 0), notice(8, 0));
    }

    private static void full(Check check) {
        for (int order = NEWEST; order <= OLDEST; order++) {
            for (int capacity = 2; capacity <= 4; capacity++) {
                int[] notFull = watched(capacity, order, capacity - 1).publishedNotices();
                int[] full = watched(capacity, order, capacity).publishedNotices();
                int marksBefore = 0;
                int marksAfter = 0;
                for (int i = 6; i < notFull.length; i += 7) {
                    marksBefore += notFull[i];
                    marksAfter += full[i];
                }
                check.same("no mark at the capacity", marksBefore, 0);
                check.same("one mark beyond it", marksAfter, 1);
                check.same("as many notices", full.length, notFull.length);
            }
        }
        Client x = Client.with(Wire.SMALL);
        x.send(Wire.watch(1, 1, OLDEST));
        x.send(Wire.watch(1, 2, NEWEST));
        x.send(Wire.watch(1, 3, OLDEST));
        pokeAll(x, 1, 2);
        check.bytes("each by its own capacity and order", x.publishedNotices(), Wire.join(notice(2, 0),
                Wire.notice(1, Wire.small(0), 0), Wire.notice(1, Wire.small(2), 1),
                Wire.notice(2, Wire.small(0), 0), Wire.notice(2, Wire.small(1), 0),
                Wire.notice(2, Wire.small(2), 0)));
    }

    private static void oldestGo(Check check) {
        due(check, "2, one goes", watched(2, OLDEST, 2), notice(1, 1), notice(2, 0));
        due(check, "2, two go", watched(2, OLDEST, 3), notice(2, 1), notice(3, 0));
        due(check, "3, one goes", watched(3, OLDEST, 3), notice(1, 1), notice(2, 0), notice(3, 0));
        due(check, "3, three go", watched(3, OLDEST, 5), notice(3, 1), notice(4, 0), notice(5, 0));
        due(check, "4, one goes", watched(4, OLDEST, 4), notice(1, 1), notice(2, 0), notice(3, 0), notice(4, 0));
        due(check, "4, seven go", watched(4, OLDEST, 10), notice(7, 1), notice(8, 0), notice(9, 0), notice(10, 0));
        Client x = watched(4, OLDEST, 5);
        x.send(Wire.publish());
        pokeAll(x, 6, 8);
        due(check, "full again, none goes", x, notice(5, 0), notice(6, 0), notice(7, 0), notice(8, 0));
        pokeAll(x, 9, 13);
        due(check, "full again, one goes", x, notice(10, 1), notice(11, 0), notice(12, 0), notice(13, 0));
    }

    private static void newestGo(Check check) {
        due(check, "2, one goes", watched(2, NEWEST, 2), notice(0, 0), notice(2, 1));
        due(check, "2, two go", watched(2, NEWEST, 3), notice(0, 0), notice(3, 1));
        due(check, "3, one goes", watched(3, NEWEST, 3), notice(0, 0), notice(1, 0), notice(3, 1));
        due(check, "3, three go", watched(3, NEWEST, 5), notice(0, 0), notice(1, 0), notice(5, 1));
        due(check, "4, one goes", watched(4, NEWEST, 4), notice(0, 0), notice(1, 0), notice(2, 0), notice(4, 1));
        due(check, "4, seven go", watched(4, NEWEST, 10), notice(0, 0), notice(1, 0), notice(2, 0), notice(10, 1));
        Client x = watched(4, NEWEST, 5);
        x.send(Wire.publish());
        pokeAll(x, 6, 8);
        due(check, "a mark stays, the next have none", x, notice(5, 1), notice(6, 0), notice(7, 0), notice(8, 0));
        pokeAll(x, 9, 13);
        due(check, "full again, one goes", x, notice(9, 0), notice(10, 0), notice(11, 0), notice(13, 1));
    }

    private static void capacityOne(Check check) {
        for (int order = NEWEST; order <= OLDEST; order++) {
            due(check, "none goes", watched(1, order, 0), notice(0, 0));
            due(check, "one goes", watched(1, order, 1), notice(1, 0));
            due(check, "five go", watched(1, order, 5), notice(5, 0));
            due(check, "the byte 0 is the capacity 1", watched(0, order, 3), notice(3, 0));
        }
    }
}
