/** Terms, the service 4 WATCH. */
public final class ServiceWatchTest {
    public static void main(String[] args) {
        Section section = new Section("Terms, 4 WATCH");
        section.sentence("3 and 4 likewise", ServiceWatchTest::noVariable);
        section.sentence("6 if there are 6 items", ServiceWatchTest::sixItems);
        section.sentence("0: the newest are discarded, otherwise the oldest", ServiceWatchTest::orders);
        section.sentence("1 if the byte is 0, 4 if it is above 4", ServiceWatchTest::capacities);
        section.sentence("one notice, of the value as it is, with the mark 0", ServiceWatchTest::firstNotice);
        section.sentence("0 and a byte, the item's number", ServiceWatchTest::numbers);
        section.end();
    }

    private static void noVariable(Check check) {
        Client x = Client.with(Wire.SMALL);
        x.folder(0);
        for (int node : new int[] {3, 15, 16, 255}) {
            check.bytes("no node " + node, x.send(Wire.watch(node, 1, 1)), 3);
        }
        for (int node : new int[] {0, 2}) {
            check.bytes("folder " + node, x.send(Wire.watch(node, 1, 1)), 4);
        }
        check.same("no item", x.queue(0), -1);
        check.bytes("no number was used", x.send(Wire.watch(1, 1, 1)), 0, 0);
    }

    private static void sixItems(Check check) {
        Client x = Client.with(Wire.SMALL, Wire.SMALL);
        for (int i = 0; i < 6; i++) {
            check.bytes("item " + i, x.send(Wire.watch(1, 4, 1)), 0, i);
        }
        check.bytes("of the same variable", x.send(Wire.watch(1, 4, 1)), 6);
        check.bytes("of another", x.send(Wire.watch(2, 4, 1)), 6);
        check.bytes("of no node", x.send(Wire.watch(3, 4, 1)), 3);
        check.bytes("of a folder", x.send(Wire.watch(0, 4, 1)), 4);
        check.same("no item 6", x.queue(6), -1);
        for (int i = 0; i < 6; i++) {
            check.same("item " + i + " as it was", x.queue(i), 1);
        }
        x.publishedNotices();
        check.bytes("items without notices are items too", x.send(Wire.watch(1, 4, 1)), 6);
        x.open();
        check.bytes("opened anew", x.send(Wire.watch(1, 4, 1)), 0, 0);
    }

    private static void orders(Check check) {
        int[] newestGo = Wire.join(Wire.notice(0, Wire.small(0), 0), Wire.notice(0, Wire.small(3), 1));
        int[] oldestGo = Wire.join(Wire.notice(0, Wire.small(2), 1), Wire.notice(0, Wire.small(3), 0));
        for (int order : new int[] {0, 1, 2, 3, 127, 128, 254, 255}) {
            Client x = Client.with(Wire.SMALL);
            x.send(Wire.watch(1, 2, order));
            for (int v = 1; v <= 3; v++) {
                x.poke(1, v);
            }
            check.bytes("order " + order, x.publishedNotices(), order == 0 ? newestGo : oldestGo);
        }
    }

    private static void capacities(Check check) {
        int[] bytes = {0, 1, 2, 3, 4, 5, 6, 127, 128, 254, 255};
        int[] due = {1, 1, 2, 3, 4, 4, 4, 4, 4, 4, 4};
        for (int i = 0; i < bytes.length; i++) {
            for (int order = 0; order < 2; order++) {
                Client x = Client.with(Wire.SMALL);
                check.bytes("byte " + bytes[i], x.send(Wire.watch(1, bytes[i], order)), 0, 0);
                for (int v = 1; v < 8; v++) {
                    x.poke(1, v);
                    check.same("byte " + bytes[i] + ", change " + v, x.queue(0), Math.min(due[i], v + 1));
                }
            }
        }
    }

    private static void firstNotice(Check check) {
        int[][] values = {Wire.empty(), Wire.flag(1), Wire.small(-1), Wire.large(9), Wire.text(9, 8), Wire.noText(),
            Wire.list(Wire.list(Wire.list()), Wire.flag(0))};
        for (int[] value : values) {
            for (int capacity : new int[] {0, 1, 4}) {
                Client x = Client.with(Wire.ANY);
                x.send(Wire.write(1, value));
                x.send(Wire.watch(1, capacity, 0));
                check.same("one notice", x.queue(0), 1);
                check.bytes("of the value", x.publishedNotices(), Wire.notice(0, value, 0));
                check.bytes("none more", x.send(Wire.publish()), 7);
            }
        }
        Client x = Client.with(Wire.SMALL);
        x.send(Wire.watch(1, 4, 0));
        x.poke(1, 1);
        x.send(Wire.watch(1, 4, 0));
        check.same("a second item begins with one notice", x.queue(1), 1);
        check.same("the first one gets none by it", x.queue(0), 2);
        x.poke(1, 2);
        check.bytes("as it was then", x.publishedNotices(), Wire.join(Wire.notice(0, Wire.small(0), 0),
                Wire.notice(0, Wire.small(1), 0), Wire.notice(0, Wire.small(2), 0),
                Wire.notice(1, Wire.small(1), 0), Wire.notice(1, Wire.small(2), 0)));
    }

    private static void numbers(Check check) {
        Client x = Client.with(Wire.SMALL, Wire.TEXT);
        for (int i = 0; i < 6; i++) {
            check.bytes("item " + i, x.send(Wire.watch(1 + i % 2, i, i % 3)), 0, i);
        }
    }
}
