/** Promise 7: chunk, and how chunks come together to a message. */
public final class Promise07ChunkTest {
    public static void main(String[] args) {
        Check check = new Check();
        refusals(check);
        bytesOfChunk(check);
        sequenceNumbers(check);
        wrapping(check);
        requestNumbers(check);
        aborts(check);
        tooManyBytes(check);
        tooManyChunks(check);
        closedStays(check);
        longestMessage(check);
        check.end();
    }

    private static void refusals(Check check) {
        ChunkedNodes x = new ChunkedNodes();
        check.same("first", x.chunk(0, 10, 5, 1, 1), 0);
        for (int wrong : new int[] {-1, 3, 255, Integer.MIN_VALUE, Integer.MAX_VALUE}) {
            check.same("kind " + wrong, x.chunk(wrong, 11, 5, 0, 1), -1);
        }
        for (int wrong : new int[] {-1, 9, 64, Integer.MIN_VALUE, Integer.MAX_VALUE}) {
            check.same("count " + wrong, x.chunk(0, 11, 5, 0, wrong), -1);
        }
        for (int wrong : new int[] {-1, Integer.MIN_VALUE}) {
            check.same("sequence " + wrong, x.chunk(0, wrong, 5, 0, 1), -1);
            check.same("request " + wrong, x.chunk(0, 11, wrong, 0, 1), -1);
        }
        check.same("refused before it closes", x.chunk(5, 900, 6, 0, 1), -1);
        check.same("an abort is refused too", x.chunk(2, 11, 5, 0, 9), -1);
        check.same("nothing changed", x.part(), 1);
        check.same("the next one", x.chunk(0, 11, 5, 0, 8), 0);
        check.same("9 bytes", x.part(), 9);
    }

    private static void bytesOfChunk(Check check) {
        Client client = new Client();
        ChunkedNodes x = client.server;
        x.variable(0, 0);
        check.same("2 bytes of more", x.chunk(0, 1, 5, 0x7777777777770002L, 2), 0);
        check.same("8 bytes", x.chunk(0, 2, 5, 0x8070605040300801L, 8), 0);
        check.same("0 bytes", x.chunk(0, 3, 5, -1, 0), 0);
        check.same("the last 2", x.chunk(1, 4, 5, 0xFFFFFFFFFFFFA090L, 2), 1);
        check.bytes("written", client.answer(), 0);
        check.same("read", x.chunk(1, 5, 6, 0x010001, 3), 1);
        check.bytes("the value", client.answer(), 0, 8, 0x30, 0x40, 0x50, 0x60, 0x70, 0x80, 0x90, 0xA0);
    }

    private static ChunkedNodes afterSequence(int sequence) {
        ChunkedNodes x = new ChunkedNodes();
        x.chunk(0, sequence, 1, 0, 1);
        return x;
    }

    private static void sequenceNumbers(Check check) {
        check.same("one more", afterSequence(5).chunk(0, 6, 1, 0, 1), 0);
        for (int wrong : new int[] {5, 4, 7, 0, 1, 9, Integer.MAX_VALUE}) {
            check.same("5, " + wrong, afterSequence(5).chunk(0, wrong, 1, 0, 1), 2);
            check.same("5, ABORT " + wrong, afterSequence(5).chunk(2, wrong, 1, 0, 1), 2);
            check.same("5, LAST " + wrong, afterSequence(5).chunk(1, wrong, 1, 0, 1), 2);
        }
        ChunkedNodes x = new ChunkedNodes();
        x.chunk(2, 20, 3, 0, 0);
        check.same("an ABORT counts", x.chunk(0, 22, 3, 0, 0), 2);
        x.open();
        x.chunk(1, 20, 3, 0, 0);
        check.same("a LAST counts", x.chunk(0, 20, 3, 0, 0), 2);
        x.open();
        x.chunk(2, 20, 3, 0, 0);
        x.chunk(0, 22, -3, 0, 0);
        check.same("a refused one does not count", x.chunk(0, 21, 3, 0, 0), 0);
    }

    private static void wrapping(Check check) {
        for (int latest : new int[] {1000, 1001, 5000, Integer.MAX_VALUE}) {
            for (int next = 0; next <= 9; next++) {
                check.same(latest + ", " + next, afterSequence(latest).chunk(0, next, 1, 0, 1), 0);
            }
            check.same(latest + ", 10", afterSequence(latest).chunk(0, 10, 1, 0, 1), 2);
            check.same(latest + " again", afterSequence(latest).chunk(0, latest, 1, 0, 1), 2);
        }
        for (int latest : new int[] {999, 998, 500, 10}) {
            check.same(latest + ", 0", afterSequence(latest).chunk(0, 0, 1, 0, 1), 2);
            check.same(latest + ", 9", afterSequence(latest).chunk(0, 9, 1, 0, 1), 2);
        }
        check.same("999, 1000", afterSequence(999).chunk(0, 1000, 1, 0, 1), 0);
        check.same("1000, 1001", afterSequence(1000).chunk(0, 1001, 1, 0, 1), 0);
        ChunkedNodes x = afterSequence(1000);
        x.chunk(0, 3, 1, 0, 1);
        check.same("1000, 3, 0", x.chunk(0, 0, 1, 0, 1), 2);
    }

    private static void requestNumbers(Check check) {
        for (int kind = 0; kind < 3; kind++) {
            ChunkedNodes x = afterSequence(5);
            check.same("another request, kind " + kind, x.chunk(kind, 6, 2, 0, 1), 2);
            check.same("closed", x.isOpen(), false);
        }
        ChunkedNodes x = new ChunkedNodes();
        check.same("request 1", x.chunk(1, 5, 1, 0, 1), 1);
        check.same("request 0 after it", x.chunk(1, 6, 0, 0, 1), 1);
        check.same("an empty message in part", x.chunk(0, 7, 9, 0, 0), 0);
        check.same("has its request", x.chunk(0, 8, 8, 0, 0), 2);
    }

    private static void aborts(Check check) {
        ChunkedNodes x = new ChunkedNodes();
        check.same("without a message", x.chunk(2, 1, 1, -1, 8), 0);
        check.same("no part", x.part(), -1);
        x.chunk(0, 2, 7, 1, 1);
        check.same("with a message", x.chunk(2, 3, 7, -1, 8), 0);
        check.same("dropped", x.part(), -1);
        check.same("another request", x.chunk(0, 4, 8, 1, 1), 0);
        check.same("a new message", x.part(), 1);
        check.same("no answer", x.answerLength(), 0);
        for (int i = 0; i < 11; i++) {
            x.chunk(0, 5 + i, 8, 0, 5);
        }
        check.same("12 chunks", x.part(), 56);
        check.same("aborted as 13th, with more than 64", x.chunk(2, 16, 8, 0, 8), 0);
        check.same("open", x.isOpen(), true);
        check.same("12 chunks anew", x.chunk(0, 17, 8, 0, 8), 0);
    }

    private static void tooManyBytes(Check check) {
        for (int kind = 0; kind < 2; kind++) {
            ChunkedNodes x = new ChunkedNodes();
            for (int i = 0; i < 8; i++) {
                check.same("8 bytes", x.chunk(0, i, 1, 0, 8), 0);
            }
            check.same("64", x.part(), 64);
            check.same("none more", x.chunk(0, 8, 1, 0, 0), 0);
            check.same("the 65th, kind " + kind, x.chunk(kind, 9, 1, 0, 1), 2);
            check.same("no answer", x.answerLength(), 0);
        }
        ChunkedNodes x = new ChunkedNodes();
        for (int i = 0; i < 8; i++) {
            x.chunk(0, i, 1, 0, 7);
        }
        check.same("64 by a LAST", x.chunk(1, 8, 1, 0, 8), 1);
        check.same("after it a new one", x.chunk(0, 9, 1, 0, 8), 0);
        check.same("8", x.part(), 8);
    }

    private static void tooManyChunks(Check check) {
        for (int kind = 0; kind < 2; kind++) {
            ChunkedNodes x = new ChunkedNodes();
            for (int i = 0; i < 12; i++) {
                check.same("chunk " + i, x.chunk(0, i, 1, 9, 1), 0);
            }
            check.same("the 13th, kind " + kind, x.chunk(kind, 12, 1, 0, 0), 2);
        }
        ChunkedNodes x = new ChunkedNodes();
        for (int round = 0; round < 3; round++) {
            for (int i = 0; i < 11; i++) {
                x.chunk(0, round * 12 + i, 1, 9, 1);
            }
            check.same("the 12th is the last", x.chunk(1, round * 12 + 11, 1, 0, 0), 1);
        }
    }

    private static void closedStays(Check check) {
        Client client = new Client();
        ChunkedNodes x = client.server;
        x.variable(0, 6);
        client.send(Wire.watch(1, 2, 0));
        client.send(Wire.publish());
        x.poke(1, 1);
        x.chunk(0, 3, 44, 0, 3);
        check.same("closes", x.chunk(1, 3, 44, 0, 3), 2);
        check.same("no message in part", x.part(), -1);
        for (int kind = 0; kind < 3; kind++) {
            check.same("closed, kind " + kind, x.chunk(kind, 4, 44, 0, 3), -1);
        }
        check.bytes("the latest answer stays", client.answer(),
                Wire.parcel(1, Wire.notice(0, Wire.small(0), 0)));
        check.same("its request", x.request(), 102);
        check.same("items stay", x.queue(0), 1);
        check.same("parcels stay", x.parcel(0), 1);
    }

    private static void longestMessage(Check check) {
        Client client = new Client();
        client.server.variable(0, 12);
        int[] longest = new int[56];
        for (int i = 0; i < longest.length; i++) {
            longest[i] = 200 + i;
        }
        check.bytes("64 bytes", client.send(Wire.write(1, Wire.text(longest))), 0);
        check.same("61 of them the value", client.server.size(1), 61);
        check.bytes("read", client.send(Wire.read(1)), Wire.join(Wire.bytes(0), Wire.text(longest)));
    }
}
