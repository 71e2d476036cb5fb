/** Promise 1: a new object. */
public final class Promise01NewObjectTest {
    public static void main(String[] args) {
        Section section = new Section("Promise 1");
        section.sentence("Node 0 alone", Promise01NewObjectTest::nodeZeroAlone);
        section.sentence("the channel is open, no chunk was taken", Promise01NewObjectTest::channel);
        section.sentence("no items", Promise01NewObjectTest::noItems);
        section.sentence("no parcels", Promise01NewObjectTest::noParcels);
        section.sentence("no answer", Promise01NewObjectTest::noAnswer);
        section.sentence("A new object", Promise01NewObjectTest::objectsAreApart);
        section.end();
    }

    private static void nodeZeroAlone(Check check) {
        Client x = new Client();
        for (int node = 0; node < 16; node++) {
            check.same("no variable " + node, x.size(node), -1);
        }
        check.same("no folder 1", x.folder(1), -1);
        check.same("no folder 15", x.variable(15, Wire.SMALL), -1);
        check.bytes("nothing in it", x.send(Wire.browse(0, 0)), 0, 0);
        check.bytes("nothing above it", x.send(Wire.browse(0, 1)), 0, 0);
        check.bytes("a folder", x.send(Wire.read(0)), 4);
        check.bytes("no node 1", x.send(Wire.read(1)), 3);
        check.bytes("no node 15", x.send(Wire.browse(15, 0)), 3);
    }

    private static void channel(Check check) {
        check.same("open", new Client().isOpen(), true);
        check.same("no message in part", new Client().part(), -1);
        for (int sequence : new int[] {0, 1, 2, 999, 1000, Integer.MAX_VALUE}) {
            check.same("first " + sequence, new Client().chunk(0, sequence, 0, 0, 0), 0);
            check.same("first " + sequence, new Client().chunk(1, sequence, Integer.MAX_VALUE, 0, 0), 1);
        }
    }

    private static void noItems(Check check) {
        Client x = new Client();
        for (int i = 0; i < 6; i++) {
            check.same("queue " + i, x.queue(i), -1);
        }
        check.bytes("PUBLISH", x.send(Wire.publish()), 7);
        x.variable(0, Wire.SMALL);
        check.bytes("the first is item 0", x.send(Wire.watch(1, 1, 1)), 0, 0);
    }

    private static void noParcels(Check check) {
        Client x = new Client();
        check.same("parcels", x.parcels(), 0);
        for (int k = 0; k < 3; k++) {
            check.same("parcel " + k, x.parcel(k), -1);
            check.bytes("AGAIN " + k, x.send(Wire.again(k)), 8);
        }
    }

    private static void noAnswer(Check check) {
        Client x = new Client();
        check.same("answerLength", x.answerLength(), 0);
        check.same("answer(0)", x.answer(0), -1);
        check.same("request", x.request(), -1);
    }

    private static void objectsAreApart(Check check) {
        Client one = Client.with(Wire.SMALL);
        Client other = new Client();
        one.poke(1, 5);
        one.send(Wire.watch(1, 4, 1));
        one.send(Wire.publish());
        one.more(1);
        one.chunk(0, 500, 0, 0, 0);
        check.same("the other has no node 1", other.size(1), -1);
        check.same("no answer", other.answerLength(), 0);
        check.same("no item", other.queue(0), -1);
        check.same("no parcel", other.parcels(), 0);
        check.same("no message in part", other.part(), -1);
        check.same("an open channel", other.isOpen(), true);
        Client later = Client.with(Wire.SMALL);
        check.bytes("a later one begins anew", later.send(Wire.read(1)), Wire.valueAnswer(Wire.small(0)));
    }
}
