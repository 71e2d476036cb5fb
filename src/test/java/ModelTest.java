import java.util.Random;

/** Runs of calls, always the same ones, on the class and on the model: every answer must be the same. */
public final class ModelTest {
    private static final int CALLS = 512;
    private static final int[] TYPES = {0, 1, 6, 8, 12};

    private final Random dice;
    private final Check check;
    private final ChunkedNodes x = new ChunkedNodes();
    private final Model model = new Model();
    private final StringBuilder history = new StringBuilder();
    private int calls;
    private int sequence;

    private ModelTest(long seed, Check check) {
        dice = new Random(seed);
        this.check = check;
    }

    public static void main(String[] args) {
        Check check = new Check("the class against the model");
        for (int seed = 0; seed < 12000 && check.wrong() == 0; seed++) {
            new ModelTest(seed, check).run();
        }
        check.end();
    }

    private void run() {
        for (int n = dice.nextInt(7); n > 0; n--) {
            makeNode();
        }
        while (calls < CALLS && check.wrong() == 0) {
            step();
            look();
        }
    }

    private boolean chance(int of) {
        return dice.nextInt(of) == 0;
    }

    private void same(String call, long got, long want) {
        calls++;
        history.append(call).append(" = ").append(got).append('\n');
        if (got != want) {
            System.out.println(history);
            check.same(call, got, want);
        }
    }

    private void step() {
        int what = dice.nextInt(20);
        if (what < 1) {
            makeNode();
        } else if (what < 8) {
            int node = dice.nextInt(10) - 1;
            long v = chance(3) ? dice.nextLong() : dice.nextInt(3);
            same("poke(" + node + ", " + v + ")", x.poke(node, v) ? 1 : 0, model.poke(node, v) ? 1 : 0);
        } else if (what < 19) {
            send(chance(12) ? spoiled(message()) : message());
        } else if (chance(6) || !model.isOpen()) {
            x.open();
            model.open();
            calls++;
            history.append("open()\n");
            sequence = chance(3) ? 985 + dice.nextInt(20) : dice.nextInt(30);
        }
    }

    private void makeNode() {
        int parent = chance(3) ? dice.nextInt(18) - 1 : 0;
        if (chance(4)) {
            same("folder(" + parent + ")", x.folder(parent), model.folder(parent));
        } else {
            int type = chance(20) ? dice.nextInt(14) : TYPES[dice.nextInt(5)];
            same("variable(" + parent + ", " + type + ")", x.variable(parent, type), model.variable(parent, type));
        }
    }

    private int[] message() {
        switch (dice.nextInt(10)) {
            case 0:
                return Wire.join(Wire.bytes(1), name());
            case 1:
            case 2:
            case 3:
                return Wire.join(Wire.bytes(2), name(), value(0));
            case 4:
                return Wire.join(Wire.bytes(3), name(), Wire.bytes(chance(9) ? 2 : dice.nextInt(2)));
            case 5:
            case 6:
                return Wire.join(Wire.bytes(4), name(), Wire.bytes(dice.nextInt(6), dice.nextInt(3)));
            case 7:
            case 8:
                return publish();
            default:
                return Wire.again(number());
        }
    }

    private int number() {
        return chance(8) ? dice.nextInt() : model.parcel(0) + dice.nextInt(4);
    }

    private int[] publish() {
        int[] numbers = new int[chance(20) ? 5 : dice.nextInt(3)];
        for (int i = 0; i < numbers.length; i++) {
            numbers[i] = number();
        }
        return Wire.publish(numbers);
    }

    private int[] name() {
        int node = chance(20) ? dice.nextInt(256) : dice.nextInt(8);
        return chance(4) ? Wire.longName(chance(6) ? 1 : 0, node) : Wire.name(node);
    }

    private int[] value(int lists) {
        switch (dice.nextInt(lists > 1 ? 8 : 7)) {
            case 0:
                return Wire.empty();
            case 1:
                return Wire.flag(dice.nextInt(3));
            case 2:
                return Wire.small(dice.nextInt(3) - 1);
            case 3:
                return Wire.large(dice.nextInt(3) - 1);
            case 4:
                return Wire.text(new int[dice.nextInt(chance(4) ? 57 : 5)]);
            case 5:
                return Wire.noText();
            default:
                int[][] values = new int[dice.nextInt(4)][];
                for (int i = 0; i < values.length; i++) {
                    values[i] = value(lists + 1);
                }
                return lists > 4 ? Wire.empty() : Wire.list(values);
        }
    }

    private int[] spoiled(int[] message) {
        int[] copy = java.util.Arrays.copyOf(message, Math.max(0, message.length + dice.nextInt(3) - 1));
        if (copy.length > 0) {
            copy[dice.nextInt(copy.length)] = chance(2) ? dice.nextInt(256) : dice.nextInt(4);
        }
        return copy;
    }

    private void send(int[] message) {
        int request = dice.nextInt(4);
        int most = chance(3) ? 1 + dice.nextInt(8) : 8;
        int from = 0;
        while (message.length - from > most && model.isOpen()) {
            int count = chance(8) ? 0 : most;
            chunk(chance(60) ? 2 : 0, request, bytesOf(message, from, count), count);
            from += count;
        }
        int count = Math.min(8, message.length - from);
        chunk(chance(30) ? 0 : 1, request, bytesOf(message, from, count), count);
    }

    private static long bytesOf(int[] message, int from, int count) {
        return Wire.pack(java.util.Arrays.copyOfRange(message, from, from + count));
    }

    private void chunk(int kind, int request, long bytes, int count) {
        int s = chance(150) ? dice.nextInt(1010) : sequence;
        if (sequence >= 1000 && chance(3)) {
            s = dice.nextInt(11);
        }
        int r = chance(150) ? dice.nextInt(4) : request;
        int k = chance(150) ? dice.nextInt(5) - 1 : kind;
        int c = chance(150) ? dice.nextInt(11) - 1 : count;
        same("chunk(" + k + ", " + s + ", " + r + ", " + bytes + "L, " + c + ")",
                x.chunk(k, s, r, bytes, c), model.chunk(k, s, r, bytes, c));
        sequence = s + 1;
    }

    private void look() {
        if (chance(4)) {
            same("isOpen()", x.isOpen() ? 1 : 0, model.isOpen() ? 1 : 0);
            same("part()", x.part(), model.part());
            same("request()", x.request(), model.request());
            same("parcels()", x.parcels(), model.parcels());
        }
        if (chance(3)) {
            int i = dice.nextInt(8) - 1;
            same("queue(" + i + ")", x.queue(i), model.queue(i));
            same("parcel(" + i + ")", x.parcel(i), model.parcel(i));
            same("size(" + i + ")", x.size(i), model.size(i));
        }
        if (chance(3)) {
            same("answerLength()", x.answerLength(), model.answerLength());
            for (int i = -1; i <= model.answerLength(); i++) {
                same("answer(" + i + ")", x.answer(i), model.answer(i));
            }
        }
    }
}
