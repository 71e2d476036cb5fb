/** What it is: how long an object is used. */
public final class WhatItIsTest {
    private static final int MOST_CALLS = 512;

    public static void main(String[] args) {
        Section section = new Section("What it is");
        section.sentence("An object is used for at most 512 calls after it has been made", WhatItIsTest::lastCall);
        section.end();
    }

    /** Each object is used for 512 calls, and the last of them still answers as the first. */
    private static void lastCall(Check check) {
        Client chunks = Client.with(Wire.SMALL);
        for (int call = 2; call < MOST_CALLS; call++) {
            check.same("chunk, call " + call, chunks.last(1, 0, 1), 1);
        }
        check.same("answerLength, call 512", chunks.answerLength(), 6);
        Client pokes = Client.with(Wire.LARGE);
        pokes.last(Wire.watch(1, 4, 1));
        for (int call = 3; call < MOST_CALLS; call++) {
            check.same("poke, call " + call, pokes.poke(1, call), true);
        }
        check.same("queue, call 512", pokes.queue(0), 4);
        Client opens = new Client();
        for (int call = 1; call < MOST_CALLS; call += 2) {
            opens.open();
            check.same("a new message, call " + (call + 1), opens.chunk(0, call, call, 0, 8), 0);
        }
    }
}
