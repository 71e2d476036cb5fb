/** Terms, the service 5 PUBLISH. */
public final class ServicePublishTest {
    public static void main(String[] args) {
        Section section = new Section("Terms, 5 PUBLISH");
        section.sentence("a byte from 0 to 4, and as many numbers of 4 bytes", ServicePublishTest::counts);
        section.sentence("first every PARCEL that is kept and has one of these numbers is kept no more",
                ServicePublishTest::acknowledging);
        section.sentence("Then, if no item has notices: 7.", ServicePublishTest::noNotices);
        section.sentence("a new parcel, which is kept from then on", ServicePublishTest::keptFromThenOn);
        section.sentence("1 more than that of the parcel before (1 for the first)", ServicePublishTest::numbers);
        section.sentence("a byte, how many notices follow", ServicePublishTest::howMany);
        section.sentence("each a byte, the item's number, its value, and a byte, its mark",
                ServicePublishTest::formOfNotices);
        section.sentence("the oldest of item 0 first, then its next ones, then those of item 1, and so on",
                ServicePublishTest::order);
        section.sentence("at most 3", ServicePublishTest::atMostThree);
        section.sentence("these leave their queues", ServicePublishTest::leaving);
        section.sentence("At most 3 parcels are kept; the oldest goes before another one is.",
                ServicePublishTest::threeKept);
        section.end();
    }

    /** A SMALL, which is 0, watched by as many items of the capacity told. */
    private static Client watched(int items, int capacity) {
        Client x = Client.with(Wire.SMALL);
        for (int i = 0; i < items; i++) {
            x.send(Wire.watch(1, capacity, 1));
        }
        return x;
    }

    /** One item, and as many parcels made as told; the value is one notice ahead of them. */
    private static Client published(int parcels) {
        Client x = watched(1, 1);
        for (int n = 1; n <= parcels; n++) {
            x.send(Wire.publish());
            x.poke(1, n);
        }
        return x;
    }

    private static void kept(Check check, String what, Client x, int... numbers) {
        check.same(what + ", how many", x.parcels(), numbers.length);
        for (int k = 0; k < numbers.length; k++) {
            check.same(what + ", parcel " + k, x.parcel(k), numbers[k]);
        }
        check.same(what + ", no more", x.parcel(numbers.length), -1);
    }

    private static void counts(Check check) {
        for (int count = 0; count <= 4; count++) {
            Client x = published(1);
            int[] message = Wire.join(Wire.bytes(5, count), new int[4 * count]);
            check.bytes(count + " numbers", x.send(message), Wire.parcel(2, Wire.notice(0, Wire.small(1), 0)));
        }
        for (int count = 0; count < 256; count++) {
            for (int bytes : new int[] {0, 3, 4, 5, 8, 12, 16, 17, 20, 62}) {
                if (count > 4 || bytes != 4 * count) {
                    notPublished(check, count, bytes);
                }
            }
        }
    }

    private static void notPublished(Check check, int count, int bytes) {
        Client x = published(1);
        int[] behind = new int[bytes];
        for (int i = 0; i < bytes; i += 4) {
            behind[i] = 1;
        }
        String what = "count " + count + ", bytes " + bytes;
        check.bytes(what, x.send(Wire.join(Wire.bytes(5, count), behind)), 1);
        check.same(what + ", the notice stays", x.queue(0), 1);
        kept(check, what, x, 1);
    }

    private static void acknowledging(Check check) {
        int[][] numbers = {{}, {1}, {2}, {3}, {1, 2}, {3, 1}, {2, 3}, {3, 2, 1}, {1, 1}, {2, 2, 2, 2}, {9, 9, 9, 1},
            {0}, {4}, {-1}, {Integer.MIN_VALUE, Integer.MAX_VALUE}, {257, 65538, 16777219}, {1 << 31 | 1}};
        int[][] left = {{1, 2, 3}, {2, 3}, {1, 3}, {1, 2}, {3}, {2}, {1}, {}, {2, 3}, {1, 3}, {2, 3},
            {1, 2, 3}, {1, 2, 3}, {1, 2, 3}, {1, 2, 3}, {1, 2, 3}, {1, 2, 3}};
        for (int i = 0; i < numbers.length; i++) {
            String what = "numbers " + java.util.Arrays.toString(numbers[i]);
            Client x = Client.withParcels(3);
            check.bytes(what, x.send(Wire.publish(numbers[i])), 7);
            kept(check, what, x, left[i]);
        }
        Client x = published(3);
        check.bytes("first", x.send(Wire.publish(2)), Wire.parcel(4, Wire.notice(0, Wire.small(3), 0)));
        kept(check, "so the oldest need not go", x, 1, 3, 4);
        x.poke(1, 70);
        x.send(Wire.publish(5));
        kept(check, "the one that is to come is not kept yet", x, 3, 4, 5);
        x.poke(1, 71);
        x.send(Wire.publish(5, 4, 3, 6));
        kept(check, "all, and a new one", x, 6);
    }

    private static void noNotices(Check check) {
        check.bytes("no items", new Client().send(Wire.publish()), 7);
        Client x = Client.withParcels(3);
        check.bytes("empty queues", x.send(Wire.publish()), 7);
        kept(check, "no parcel is made, none goes", x, 1, 2, 3);
        check.bytes("the numbers count all the same", x.send(Wire.publish(1, 3)), 7);
        kept(check, "two are acknowledged", x, 2);
        x.poke(1, 50);
        check.bytes("no number was used", x.send(Wire.publish()), Wire.parcel(4, Wire.notice(0, Wire.small(50), 0)));
        Client y = Client.with(Wire.SMALL, Wire.SMALL);
        y.send(Wire.watch(1, 1, 1));
        y.send(Wire.watch(2, 1, 1));
        y.publishedNotices();
        y.poke(2, 1);
        check.bytes("the last item has one", y.send(Wire.publish()),
                Wire.parcel(2, Wire.notice(1, Wire.small(1), 0)));
    }

    private static void keptFromThenOn(Check check) {
        Client x = watched(1, 1);
        kept(check, "none yet", x);
        int[] parcel = x.send(Wire.publish());
        kept(check, "one", x, 1);
        check.bytes("sent again", x.send(Wire.again(1)), parcel);
        x.poke(1, 1);
        int[] second = x.send(Wire.publish());
        kept(check, "two", x, 1, 2);
        check.bytes("the first still", x.send(Wire.again(1)), parcel);
        check.bytes("the second", x.send(Wire.again(2)), second);
    }

    private static void numbers(Check check) {
        Client x = watched(1, 1);
        for (int n = 1; n <= 12; n++) {
            check.bytes("parcel " + n, x.send(Wire.publish(n - 1)),
                    Wire.parcel(n, Wire.notice(0, Wire.small(n - 1), 0)));
            kept(check, "parcel " + n, x, n);
            x.poke(1, n);
        }
        numbersAbove255(check);
        x.open();
        x.send(Wire.watch(1, 1, 1));
        check.bytes("the first since it was opened", x.send(Wire.publish()),
                Wire.parcel(1, Wire.notice(0, Wire.small(12), 0)));
    }

    /** Six notices of one change make two parcels, so that 512 calls are enough for numbers of two bytes. */
    private static void numbersAbove255(Check check) {
        Client x = Client.with(Wire.SMALL);
        for (int i = 0; i < 6; i++) {
            x.last(Wire.watch(1, 1, 1));
        }
        for (int v = 1; v <= 130; v++) {
            x.last(Wire.publish());
            x.last(Wire.publish());
            x.poke(1, v);
        }
        kept(check, "260 parcels", x, 258, 259, 260);
        check.bytes("AGAIN 258", x.send(6, 2, 1, 0, 0), Wire.parcel(258, Wire.notice(3, Wire.small(128), 0),
                Wire.notice(4, Wire.small(128), 0), Wire.notice(5, Wire.small(128), 0)));
        check.bytes("AGAIN 2", x.send(6, 2, 0, 0, 0), 8);
        x.send(Wire.publish(258, 4));
        kept(check, "258 is acknowledged, 260 is not", x, 259, 260, 261);
    }

    private static void howMany(Check check) {
        for (int items = 1; items <= 6; items++) {
            Client x = watched(items, 1);
            x.send(Wire.publish());
            check.same(items + " notices", x.answer(5), Math.min(items, 3));
            check.same(items + " notices, length", x.answerLength(), 6 + 7 * Math.min(items, 3));
        }
    }

    private static void formOfNotices(Check check) {
        int[] list = Wire.list(Wire.flag(1), Wire.noText());
        Client x = Client.with(Wire.ANY, Wire.LARGE, Wire.TEXT);
        x.send(Wire.write(1, list));
        for (int i = 0; i < 3; i++) {
            x.send(Wire.watch(i + 1, 2, 1));
        }
        check.bytes("values of all lengths", x.send(Wire.publish()), Wire.parcel(1, Wire.notice(0, list, 0),
                Wire.notice(1, Wire.large(0), 0), Wire.notice(2, Wire.noText(), 0)));
        for (int v = 1; v <= 3; v++) {
            x.poke(2, v);
        }
        check.bytes("a mark", x.send(Wire.publish()), 0, 2, 0, 0, 0, 2,
                1, 8, 2, 0, 0, 0, 0, 0, 0, 0, 1, 1, 8, 3, 0, 0, 0, 0, 0, 0, 0, 0);
        Client y = Client.with(Wire.TEXT);
        y.send(Wire.watch(1, 3, 1));
        y.publishedNotices();
        int[][] due = new int[3][];
        for (int i = 0; i < 3; i++) {
            int[] text = new int[56];
            java.util.Arrays.fill(text, 200 + i);
            y.send(Wire.write(1, Wire.text(text)));
            due[i] = Wire.notice(0, Wire.text(text), 0);
        }
        check.bytes("the longest answer", y.send(Wire.publish()), Wire.parcel(2, due));
    }

    private static void order(Check check) {
        Client x = watched(3, 2);
        x.poke(1, 8);
        int[] first = Wire.small(0);
        int[] second = Wire.small(8);
        int[] third = Wire.small(9);
        check.bytes("0, 0, 1", x.send(Wire.publish()), Wire.parcel(1,
                Wire.notice(0, first, 0), Wire.notice(0, second, 0), Wire.notice(1, first, 0)));
        x.poke(1, 9);
        check.bytes("item 0 first again", x.send(Wire.publish()), Wire.parcel(2,
                Wire.notice(0, third, 0), Wire.notice(1, second, 0), Wire.notice(1, third, 0)));
        check.bytes("what is left", x.send(Wire.publish()), Wire.parcel(3,
                Wire.notice(2, second, 1), Wire.notice(2, third, 0)));
        Client y = watched(6, 1);
        y.send(Wire.publish());
        check.bytes("items 3 to 5", y.send(Wire.publish()), Wire.parcel(2,
                Wire.notice(3, first, 0), Wire.notice(4, first, 0), Wire.notice(5, first, 0)));
    }

    private static void atMostThree(Check check) {
        for (int waiting = 1; waiting <= 4; waiting++) {
            Client x = watched(1, 4);
            for (int v = 1; v < waiting; v++) {
                x.poke(1, v);
            }
            x.send(Wire.publish());
            check.same(waiting + " of one item", x.answer(5), Math.min(waiting, 3));
            check.same(waiting + " of one item, left", x.queue(0), Math.max(0, waiting - 3));
        }
        Client x = watched(4, 1);
        x.send(Wire.publish());
        check.same("3 of 4 items", x.answer(5), 3);
        check.same("the fourth waits", x.queue(3), 1);
    }

    private static void leaving(Check check) {
        Client x = watched(3, 2);
        x.poke(1, 1);
        x.send(Wire.publish());
        int[] due = {0, 1, 2};
        for (int i = 0; i < 3; i++) {
            check.same("item " + i, x.queue(i), due[i]);
        }
        x.send(Wire.publish());
        for (int i = 0; i < 3; i++) {
            check.same("item " + i, x.queue(i), 0);
        }
        check.bytes("none twice", x.send(Wire.publish()), 7);
        check.same("AGAIN brings none back", x.send(Wire.again(1))[0], 0);
        check.bytes("none still", x.send(Wire.publish()), 7);
    }

    private static void threeKept(Check check) {
        Client x = watched(1, 1);
        int[][] due = {{1}, {1, 2}, {1, 2, 3}, {2, 3, 4}, {3, 4, 5}, {4, 5, 6}};
        for (int n = 1; n <= due.length; n++) {
            x.poke(1, n);
            x.send(Wire.publish());
            kept(check, "after " + n, x, due[n - 1]);
        }
        check.bytes("3 is kept no more", x.send(Wire.again(3)), 8);
        check.bytes("4 is", x.send(Wire.again(4)), Wire.parcel(4, Wire.notice(0, Wire.small(4), 0)));
        check.bytes("6 is", x.send(Wire.again(6)), Wire.parcel(6, Wire.notice(0, Wire.small(6), 0)));
        x.poke(1, 60);
        x.send(Wire.publish(5));
        kept(check, "the middle one was acknowledged", x, 4, 6, 7);
        x.poke(1, 61);
        x.send(Wire.publish());
        kept(check, "the oldest goes", x, 6, 7, 8);
    }
}
