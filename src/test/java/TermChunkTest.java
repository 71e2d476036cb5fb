/** Terms: CHUNKS, and the closing of the channel. */
public final class TermChunkTest {
    private static final int MORE = 0;
    private static final int LAST = 1;
    private static final int ABORT = 2;
    private static final int TAKEN = 0;
    private static final int ANSWERED = 1;
    private static final int CLOSED = 2;
    private static final int REFUSED = -1;

    public static void main(String[] args) {
        Section section = new Section("Terms, CHUNKS");
        section.sentence("and 0 .. 8 bytes", TermChunkTest::bytesOfOne);
        section.sentence("the channel CLOSES (there is no message in part then)", TermChunkTest::closing);
        section.sentence("a chunk was taken since it was opened", TermChunkTest::firstOne);
        section.sentence("the sequence number is neither one more than that of the latest one", TermChunkTest::oneMore);
        section.sentence("nor, if that was 1000 or more, one of 0 .. 9", TermChunkTest::wrapping);
        section.sentence("there is a message in part, and the request number is not its", TermChunkTest::requests);
        section.sentence("the chunk is no ABORT, and with it the message would have more than 64 bytes",
                TermChunkTest::tooManyBytes);
        section.sentence("or more than 12 chunks", TermChunkTest::tooManyChunks);
        section.sentence("ABORT drops the message in part, if there is one", TermChunkTest::aborting);
        section.sentence("the bytes of the others come to the end of the message in part, or of a new one",
                TermChunkTest::puttingTogether);
        section.sentence("after LAST the message is whole, is answered, and there is none in part any more",
                TermChunkTest::whole);
        section.end();
    }

    /** An object that has taken one chunk of one byte, which began a message under the request number 1. */
    private static Client after(int sequence) {
        Client x = new Client();
        x.chunk(MORE, sequence, 1, 0, 1);
        return x;
    }

    private static void bytesOfOne(Check check) {
        for (int kind = MORE; kind <= ABORT; kind++) {
            for (int count = 0; count <= 8; count++) {
                Client x = after(5);
                check.same(count + " bytes", x.chunk(kind, 6, 1, 0, count), kind == LAST ? ANSWERED : TAKEN);
                check.same(count + " bytes, part", x.part(), kind == MORE ? 1 + count : -1);
            }
            check.same("-1 bytes", after(5).chunk(kind, 6, 1, 0, -1), REFUSED);
            check.same("9 bytes", after(5).chunk(kind, 6, 1, 0, 9), REFUSED);
        }
    }

    private static void closing(Check check) {
        Client x = after(5);
        check.same("part before", x.part(), 1);
        check.same("closes", x.chunk(MORE, 7, 1, 0, 1), CLOSED);
        check.same("isOpen", x.isOpen(), false);
        check.same("part after", x.part(), -1);
        for (int kind = MORE; kind <= ABORT; kind++) {
            check.same("kind " + kind, x.chunk(kind, 6, 1, 0, 1), REFUSED);
            check.same("kind " + kind + ", one more", x.chunk(kind, 8, 1, 0, 1), REFUSED);
        }
        check.same("part still", x.part(), -1);
        x.open();
        check.same("part when opened", x.part(), -1);
        check.same("a new message", x.chunk(MORE, 5, 2, 0, 3), TAKEN);
        check.same("its bytes alone", x.part(), 3);
        Client y = Client.with(Wire.SMALL);
        y.send(Wire.read(1));
        check.same("a LAST closes", y.chunk(LAST, 900, 1, Wire.pack(2, 0, 1, 6, 1, 1, 1, 1), 8), CLOSED);
        check.same("and is not answered", y.answerLength(), 6);
        y.open();
        check.bytes("nor done", y.send(Wire.read(1)), Wire.valueAnswer(Wire.small(0)));
    }

    private static void firstOne(Check check) {
        for (int sequence : new int[] {0, 1, 9, 10, 999, 1000, Integer.MAX_VALUE}) {
            for (int kind = MORE; kind <= ABORT; kind++) {
                Client x = new Client();
                check.same("first " + sequence, x.chunk(kind, sequence, 3, 0, 0), kind == LAST ? ANSWERED : TAKEN);
                x.open();
                check.same("opened " + sequence, x.chunk(kind, sequence, 3, 0, 0), kind == LAST ? ANSWERED : TAKEN);
            }
        }
        Client x = new Client();
        check.same("a refused one is not taken", x.chunk(MORE, 50, 1, 0, 9), REFUSED);
        check.same("so any number is free", x.chunk(MORE, 7, 1, 0, 1), TAKEN);
        for (int kind = MORE; kind <= ABORT; kind++) {
            Client y = new Client();
            y.chunk(kind, 20, 3, 0, 0);
            check.same("kind " + kind + " is taken", y.chunk(MORE, 22, 3, 0, 0), CLOSED);
        }
    }

    private static void oneMore(Check check) {
        for (int kind = MORE; kind <= ABORT; kind++) {
            for (int latest : new int[] {0, 1, 9, 10, 500, 998, 999, 1000, 1001, Integer.MAX_VALUE - 1}) {
                int due = kind == LAST ? ANSWERED : TAKEN;
                check.same(latest + " + 1", after(latest).chunk(kind, latest + 1, 1, 0, 1), due);
                check.same(latest + " again", after(latest).chunk(kind, latest, 1, 0, 1), CLOSED);
                if (latest < Integer.MAX_VALUE - 1) {
                    check.same(latest + " + 2", after(latest).chunk(kind, latest + 2, 1, 0, 1), CLOSED);
                }
            }
            check.same("one less", after(50).chunk(kind, 49, 1, 0, 1), CLOSED);
            check.same("256 more", after(50).chunk(kind, 50 + 256, 1, 0, 1), CLOSED);
            check.same("the greatest", after(50).chunk(kind, Integer.MAX_VALUE, 1, 0, 1), CLOSED);
        }
        Client x = after(5);
        x.chunk(MORE, 7, -1, 0, 1);
        check.same("a refused one is not the latest", x.chunk(MORE, 6, 1, 0, 1), TAKEN);
        x.chunk(ABORT, 7, 1, 0, 0);
        check.same("an ABORT is the latest", x.chunk(LAST, 8, 1, 0, 1), ANSWERED);
        check.same("a LAST is the latest", x.chunk(MORE, 9, 2, 0, 1), TAKEN);
    }

    private static void wrapping(Check check) {
        for (int latest : new int[] {1000, 1001, 1002, 65536, Integer.MAX_VALUE - 1, Integer.MAX_VALUE}) {
            for (int next = 0; next <= 9; next++) {
                check.same(latest + ", " + next, after(latest).chunk(MORE, next, 1, 0, 1), TAKEN);
            }
            check.same(latest + ", LAST 0", after(latest).chunk(LAST, 0, 1, 0, 1), ANSWERED);
            check.same(latest + ", ABORT 9", after(latest).chunk(ABORT, 9, 1, 0, 1), TAKEN);
            check.same(latest + ", 10", after(latest).chunk(MORE, 10, 1, 0, 1), CLOSED);
            check.same(latest + ", 11", after(latest).chunk(MORE, 11, 1, 0, 1), CLOSED);
            check.same(latest + ", 999", after(latest).chunk(MORE, 999, 1, 0, 1), CLOSED);
        }
        for (int latest : new int[] {10, 500, 998, 999}) {
            for (int next = 0; next <= 9; next++) {
                check.same(latest + ", " + next, after(latest).chunk(MORE, next, 1, 0, 1), CLOSED);
            }
        }
        Client x = after(1000);
        check.same("1000, 3", x.chunk(MORE, 3, 1, 0, 1), TAKEN);
        check.same("1000, 3, 4", x.chunk(MORE, 4, 1, 0, 1), TAKEN);
        check.same("1000, 3, 4, 0", x.chunk(MORE, 0, 1, 0, 1), CLOSED);
    }

    private static void requests(Check check) {
        for (int kind = MORE; kind <= ABORT; kind++) {
            for (int request : new int[] {0, 2, 257, Integer.MAX_VALUE}) {
                Client x = after(5);
                check.same("request " + request + ", kind " + kind, x.chunk(kind, 6, request, 0, 1), CLOSED);
                check.same("isOpen", x.isOpen(), false);
            }
        }
        Client x = new Client();
        x.chunk(MORE, 1, 0, 0, 0);
        check.same("in part without bytes", x.chunk(MORE, 2, 1, 0, 0), CLOSED);
        Client y = new Client();
        check.same("request 7", y.chunk(LAST, 1, 7, 0, 1), ANSWERED);
        check.same("none in part after LAST", y.chunk(MORE, 2, 8, 0, 1), TAKEN);
        check.same("ABORT", y.chunk(ABORT, 3, 8, 0, 1), TAKEN);
        check.same("none in part after ABORT", y.chunk(MORE, 4, 9, 0, 1), TAKEN);
        check.same("its own", y.chunk(LAST, 5, 9, 0, 1), ANSWERED);
        check.same("ABORT without one", y.chunk(ABORT, 6, 77, 0, 1), TAKEN);
        check.same("has begun none", y.chunk(LAST, 7, 78, 0, 1), ANSWERED);
        y.chunk(MORE, 8, 5, 0, 1);
        y.open();
        check.same("none in part after open", y.chunk(MORE, 9, 6, 0, 1), TAKEN);
    }

    /** An object whose message in part has this many bytes, in as few chunks as can be. */
    private static Client filled(int bytes) {
        Client x = new Client();
        int left = bytes;
        for (; left > 8; left -= 8) {
            x.more(new int[8]);
        }
        x.more(new int[left]);
        return x;
    }

    private static void tooManyBytes(Check check) {
        check.same("64 by MORE", filled(56).more(new int[8]), TAKEN);
        check.same("64 by LAST", filled(56).last(new int[8]), ANSWERED);
        check.same("64 and none more", filled(64).more(), TAKEN);
        check.same("64 and a LAST without bytes", filled(64).last(), ANSWERED);
        check.same("65 by MORE", filled(64).more(0), CLOSED);
        check.same("65 by LAST", filled(64).last(0), CLOSED);
        check.same("65 from 57, by MORE", filled(57).more(new int[8]), CLOSED);
        check.same("65 from 57, by LAST", filled(57).last(new int[8]), CLOSED);
        check.same("72 by MORE", filled(64).more(new int[8]), CLOSED);
        check.same("ABORT with a 65th", filled(64).abort(0), TAKEN);
        check.same("ABORT with a 72nd", filled(64).abort(new int[8]), TAKEN);
        Client x = filled(64);
        x.last();
        check.same("after LAST from 0 on", x.more(new int[8]), TAKEN);
        check.same("8 bytes", x.part(), 8);
        Client y = filled(64);
        y.abort();
        check.same("after ABORT from 0 on", y.more(new int[8]), TAKEN);
        check.same("8 bytes", y.part(), 8);
        Client z = filled(64);
        z.open();
        check.same("after open from 0 on", z.more(new int[8]), TAKEN);
    }

    private static Client chunks(int count) {
        Client x = new Client();
        for (int i = 0; i < count; i++) {
            x.more();
        }
        return x;
    }

    private static void tooManyChunks(Check check) {
        check.same("the 12th by MORE", chunks(11).more(), TAKEN);
        check.same("the 12th by LAST", chunks(11).last(), ANSWERED);
        check.same("the 13th by MORE", chunks(12).more(), CLOSED);
        check.same("the 13th by LAST", chunks(12).last(), CLOSED);
        check.same("the 13th with a byte", chunks(12).last(1), CLOSED);
        Client x = chunks(12);
        check.same("the 13th is an ABORT", x.abort(), TAKEN);
        for (int i = 0; i < 12; i++) {
            check.same("after ABORT from 0 on", x.more(), TAKEN);
        }
        check.same("the 13th", x.more(), CLOSED);
        Client y = chunks(11);
        y.last();
        for (int i = 0; i < 12; i++) {
            check.same("after LAST from 0 on", y.more(), TAKEN);
        }
        check.same("the 13th", y.more(), CLOSED);
        Client z = new Client();
        for (int i = 0; i < 20; i++) {
            check.same("an ABORT counts for no message", z.abort(), TAKEN);
        }
        check.same("so the first", z.more(), TAKEN);
    }

    private static void aborting(Check check) {
        Client x = Client.with(Wire.SMALL);
        check.same("without a message", x.abort(1, 0, 1), TAKEN);
        check.same("no part", x.part(), -1);
        check.same("no answer", x.answerLength(), 0);
        x.more(2, 0, 1);
        check.same("with a message", x.abort(1, 0), TAKEN);
        check.same("it is dropped", x.part(), -1);
        check.same("it is not answered", x.answerLength(), 0);
        check.same("open still", x.isOpen(), true);
        check.same("READ", x.last(1, 0, 1), ANSWERED);
        check.bytes("nothing of what was dropped", x.answer(), Wire.valueAnswer(Wire.small(0)));
        x.more();
        check.same("a message without bytes", x.abort(), TAKEN);
        check.same("dropped too", x.part(), -1);
        check.same("the answer stays", x.answerLength(), 6);
    }

    private static void puttingTogether(Check check) {
        int[] value = Wire.large(0xF1E2D3C4B5A69788L);
        int[] message = Wire.write(1, value);
        for (int cut = 0; cut <= message.length; cut++) {
            for (int cut2 = cut; cut2 <= message.length; cut2++) {
                if (cut <= 8 && cut2 - cut <= 8 && message.length - cut2 <= 8) {
                    threeParts(check, message, cut, cut2, value);
                }
            }
        }
        Client x = Client.with(Wire.LARGE);
        for (int i = 0; i < 11; i++) {
            check.same("byte by byte", x.more(message[i]), TAKEN);
            check.same("so many", x.part(), i + 1);
        }
        check.same("the last", x.last(message[11]), ANSWERED);
        check.bytes("in 12 chunks", x.answer(), 0);
    }

    private static void threeParts(Check check, int[] message, int cut, int cut2, int[] value) {
        Client x = Client.with(Wire.LARGE);
        x.more(java.util.Arrays.copyOf(message, cut));
        check.same("first", x.part(), cut);
        x.more(java.util.Arrays.copyOfRange(message, cut, cut2));
        check.same("second", x.part(), cut2);
        x.last(java.util.Arrays.copyOfRange(message, cut2, message.length));
        check.bytes("WRITE", x.answer(), 0);
        check.bytes("READ", x.send(Wire.read(1)), Wire.valueAnswer(value));
    }

    private static void whole(Check check) {
        Client x = Client.with(Wire.FLAG);
        check.same("one chunk", x.last(1, 0, 1), ANSWERED);
        check.bytes("its answer", x.answer(), 0, 1, 0);
        check.same("none in part", x.part(), -1);
        x.more(1);
        x.more(0);
        check.bytes("not before", x.answer(), 0, 1, 0);
        check.same("three chunks", x.last(9), ANSWERED);
        check.bytes("its answer", x.answer(), 3);
        check.same("none in part", x.part(), -1);
        check.same("a message without bytes", x.last(), ANSWERED);
        check.bytes("its answer", x.answer(), 1);
        x.more(1, 0, 1);
        check.same("a LAST without bytes", x.last(), ANSWERED);
        check.bytes("its answer", x.answer(), 0, 1, 0);
    }
}
