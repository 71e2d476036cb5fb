import java.util.Random;

/** Calls with any arguments in any state: none may throw. */
public final class WildCallsTest {
    private static final int[] INTS = {Integer.MIN_VALUE, -2, -1, 0, 1, 2, 3, 5, 6, 7, 8, 9, 12, 15, 16, 63, 64,
        65, 152, 255, 256, 999, 1000, 1001, Integer.MAX_VALUE};
    private static final Random DICE = new Random(20);

    public static void main(String[] args) {
        Check check = new Check("Any call in any state");
        for (int run = 0; run < 3000; run++) {
            ChunkedNodes x = new ChunkedNodes();
            for (int call = 0; call < 500; call++) {
                oneCall(check, x);
            }
        }
        check.end();
    }

    private static int any() {
        return DICE.nextInt(8) == 0 ? DICE.nextInt() : INTS[DICE.nextInt(INTS.length)];
    }

    private static void oneCall(Check check, ChunkedNodes x) {
        int what = DICE.nextInt(14);
        try {
            call(x, what);
        } catch (RuntimeException e) {
            check.same("call " + what + " threw " + e, true, false);
        }
    }

    private static void call(ChunkedNodes x, int what) {
        switch (what) {
            case 0 -> openSometimes(x);
            case 1 -> x.folder(any());
            case 2 -> x.variable(any(), any());
            case 3 -> x.poke(any(), DICE.nextLong());
            case 4 -> x.answer(any());
            case 5 -> x.queue(any());
            case 6 -> x.parcel(any());
            case 7 -> x.size(any());
            case 8 -> x.chunk(any(), any(), any(), DICE.nextLong(), any());
            case 9 -> x.isOpen();
            default -> x.chunk(1, 1000 + DICE.nextInt(2), 1, randomMessage(), DICE.nextInt(9));
        }
    }

    private static void openSometimes(ChunkedNodes x) {
        if (!x.isOpen() || DICE.nextInt(4) == 0) {
            x.open();
        }
    }

    private static long randomMessage() {
        return DICE.nextLong() & 0x9808980C980F0106L | DICE.nextInt(8);
    }
}
