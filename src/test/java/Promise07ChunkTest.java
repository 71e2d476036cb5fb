/** Promise 7: chunk; the sentences under "Terms" that it rests on are in the tests of the terms. */
public final class Promise07ChunkTest {
    public static void main(String[] args) {
        Section section = new Section("Promise 7");
        section.sentence("its bytes are the lowest count ones of bytes, the lowest first", Promise07ChunkTest::bytes);
        section.sentence("Answers ANSWERED if a message was whole by it", Promise07ChunkTest::answered);
        section.sentence("TAKEN if it was taken otherwise", Promise07ChunkTest::taken);
        section.sentence("CLOSED if the channel closes", Promise07ChunkTest::closed);
        section.sentence("REFUSED if the channel is closed", Promise07ChunkTest::refusedWhenClosed);
        section.sentence("kind is not 0 .. 2", Promise07ChunkTest::kinds);
        section.sentence("sequence or request is below 0", Promise07ChunkTest::belowZero);
        section.sentence("or count is not 0 .. 8", Promise07ChunkTest::counts);
        section.end();
    }

    private static void bytes(Check check) {
        long all = 0xF8F7F6F5F4F3F2F1L;
        for (int count = 0; count <= 8; count++) {
            Client x = Client.with(Wire.TEXT);
            x.more(2, 0, 1, 12, count, 0, 0, 0);
            check.same("count " + count, x.chunk(1, x.nextSequence(), x.latestRequest(), all, count), 1);
            check.bytes("WRITE", x.answer(), 0);
            int[] text = new int[count];
            for (int i = 0; i < count; i++) {
                text[i] = 0xF1 + i;
            }
            check.bytes("READ", x.send(Wire.read(1)), Wire.valueAnswer(Wire.text(text)));
        }
        Client x = Client.with(Wire.FLAG);
        check.same("what is above the count", x.chunk(1, 1, 1, 0x7777777777010001L, 3), 1);
        check.bytes("does not count", x.answer(), 0, 1, 0);
    }

    private static void answered(Check check) {
        Client x = Client.with(Wire.FLAG);
        check.same("one chunk", x.last(1, 0, 1), 1);
        x.more(1, 0);
        check.same("two chunks", x.last(1), 1);
        check.same("no bytes", x.last(), 1);
        check.same("no service", x.last(99), 1);
        check.same("not as written", x.last(1, 0), 1);
        check.same("no node", x.last(1, 0, 9), 1);
    }

    private static void taken(Check check) {
        Client x = Client.with(Wire.FLAG);
        check.same("MORE", x.more(1), 0);
        check.same("MORE without bytes", x.more(), 0);
        check.same("MORE, and the message is as written", x.more(0, 1), 0);
        check.same("ABORT", x.abort(), 0);
        check.same("ABORT without a message", x.abort(1, 0, 1), 0);
        check.same("no answer", x.answerLength(), 0);
    }

    private static void closed(Check check) {
        for (int kind = 0; kind < 3; kind++) {
            Client x = new Client();
            x.chunk(0, 5, 1, 0, 1);
            check.same("sequence, kind " + kind, x.chunk(kind, 5, 1, 0, 1), 2);
            check.same("closed", x.isOpen(), false);
            x.open();
            x.chunk(0, 5, 1, 0, 1);
            check.same("request, kind " + kind, x.chunk(kind, 6, 2, 0, 1), 2);
            check.same("closed", x.isOpen(), false);
        }
        Client x = Client.with(Wire.SMALL);
        x.send(Wire.watch(1, 2, 0));
        x.send(Wire.publish());
        x.poke(1, 1);
        int[] answer = x.answer();
        check.same("closes", x.chunk(0, 900, 44, 0, 3), 2);
        check.bytes("the latest answer stays", x.answer(), answer);
        check.same("its request stays", x.request(), x.latestRequest());
        check.same("items stay", x.queue(0), 1);
        check.same("parcels stay", x.parcel(0), 1);
    }

    private static void refusedWhenClosed(Check check) {
        Client x = new Client();
        x.chunk(0, 5, 1, 0, 1);
        x.chunk(0, 7, 1, 0, 1);
        for (int kind = 0; kind < 3; kind++) {
            for (int sequence : new int[] {0, 5, 6, 7, 8}) {
                check.same("kind " + kind + ", " + sequence, x.chunk(kind, sequence, 1, 0, 1), -1);
            }
        }
        check.same("closed still", x.isOpen(), false);
        x.open();
        check.same("opened", x.chunk(0, 6, 1, 0, 1), 0);
    }

    /** The object has taken the chunk 10 of the request 5; a refused call must leave 11 due. */
    private static void refused(Check check, String what, int kind, int sequence, int request, int count) {
        Client x = new Client();
        check.same(what + " at first", x.chunk(kind, sequence, request, 0, count), -1);
        x.chunk(0, 10, 5, 1, 1);
        check.same(what, x.chunk(kind, sequence, request, 0, count), -1);
        check.same(what + ", open", x.isOpen(), true);
        check.same(what + ", part", x.part(), 1);
        check.same(what + ", the next one", x.chunk(0, 11, 5, 0, 8), 0);
    }

    private static void kinds(Check check) {
        for (int kind : new int[] {Integer.MIN_VALUE, -256, -2, -1, 3, 4, 255, 256, 257, Integer.MAX_VALUE}) {
            refused(check, "kind " + kind, kind, 11, 5, 1);
            refused(check, "kind " + kind + ", which else would close", kind, 900, 6, 1);
        }
        for (int kind = 0; kind < 3; kind++) {
            check.same("kind " + kind, new Client().chunk(kind, 11, 5, 0, 1), kind == 1 ? 1 : 0);
        }
    }

    private static void belowZero(Check check) {
        for (int kind = 0; kind < 3; kind++) {
            for (int below : new int[] {-1, -2, -1000, Integer.MIN_VALUE}) {
                refused(check, "sequence " + below, kind, below, 5, 1);
                refused(check, "request " + below, kind, 11, below, 1);
                refused(check, "both " + below, kind, below, below, 1);
            }
            check.same("0 and 0", new Client().chunk(kind, 0, 0, 0, 1), kind == 1 ? 1 : 0);
        }
        Client x = new Client();
        x.chunk(0, Integer.MAX_VALUE, 5, 0, 1);
        check.same("no wrap to the least int", x.chunk(0, Integer.MIN_VALUE, 5, 0, 1), -1);
        check.same("open", x.isOpen(), true);
    }

    private static void counts(Check check) {
        for (int kind = 0; kind < 3; kind++) {
            for (int count : new int[] {Integer.MIN_VALUE, -8, -1, 9, 10, 16, 64, 65, 256, Integer.MAX_VALUE}) {
                refused(check, "count " + count, kind, 11, 5, count);
            }
            check.same("count 0", new Client().chunk(kind, 11, 5, 0, 0), kind == 1 ? 1 : 0);
            check.same("count 8", new Client().chunk(kind, 11, 5, 0, 8), kind == 1 ? 1 : 0);
        }
    }
}
