/** Promise 1: a new object. */
public final class Promise01NewObjectTest {
    public static void main(String[] args) {
        Check check = new Check();
        ChunkedNodes x = new ChunkedNodes();
        check.same("isOpen", x.isOpen(), true);
        check.same("part", x.part(), -1);
        check.same("answerLength", x.answerLength(), 0);
        check.same("answer(0)", x.answer(0), -1);
        check.same("request", x.request(), -1);
        check.same("queue(0)", x.queue(0), -1);
        check.same("parcels", x.parcels(), 0);
        check.same("parcel(0)", x.parcel(0), -1);
        check.same("size(0)", x.size(0), -1);
        check.same("no node 1", x.folder(1), -1);
        anySequenceNumberIsFirst(check);
        nodeZeroAlone(check);
        objectsAreApart(check);
        check.end();
    }

    private static void anySequenceNumberIsFirst(Check check) {
        for (int first : new int[] {0, 1, 7, 1000, Integer.MAX_VALUE}) {
            check.same("first " + first, new ChunkedNodes().chunk(0, first, 0, 0, 0), 0);
        }
    }

    private static void nodeZeroAlone(Check check) {
        Client client = new Client();
        check.bytes("node 0 has nothing in it", client.send(Wire.browse(0, 0)), 0, 0);
        check.bytes("node 0 has no parent", client.send(Wire.browse(0, 1)), 0, 0);
        check.bytes("node 0 is a folder", client.send(Wire.read(0)), 4);
        check.bytes("node 1 is none", client.send(Wire.read(1)), 3);
        check.bytes("no notices", client.send(Wire.publish()), 7);
        check.bytes("no parcel 0", client.send(Wire.again(0)), 8);
    }

    private static void objectsAreApart(Check check) {
        ChunkedNodes one = new ChunkedNodes();
        ChunkedNodes other = new ChunkedNodes();
        one.variable(0, 6);
        one.poke(1, 5);
        one.chunk(1, 1, 1, 1, 1);
        check.same("the other has no node 1", other.size(1), -1);
        check.same("the other has no answer", other.answerLength(), 0);
    }
}
