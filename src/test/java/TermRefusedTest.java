import java.util.ArrayList;
import java.util.List;

/** Terms: a call that is refused changes nothing. */
public final class TermRefusedTest {
    /** A call that is due to be refused: it answers -1, or 0 for false. */
    private interface Call {
        int on(Client x);
    }

    private static final int[] OUTSIDE = {Integer.MIN_VALUE, -2, -1, 16, 17, 255, 256, Integer.MAX_VALUE};
    private static final int IN_PART = 600;

    public static void main(String[] args) {
        Section section = new Section("Terms, \"A call that is refused changes nothing.\"");
        section.sentence("folder", TermRefusedTest::folders);
        section.sentence("variable", TermRefusedTest::variables);
        section.sentence("poke", TermRefusedTest::pokes);
        section.sentence("chunk, the channel being open", TermRefusedTest::chunks);
        section.sentence("chunk, the channel being closed", TermRefusedTest::chunksWhileClosed);
        section.sentence("part, answer, request, queue, parcel, size", TermRefusedTest::looks);
        section.end();
    }

    /** Nodes of each type, two items with notices, a parcel, an answer and a message in part. */
    private static Client busy() {
        Client x = Client.with(Wire.ANY, Wire.FLAG, Wire.SMALL, Wire.LARGE, Wire.TEXT);
        x.folder(0);
        x.variable(6, Wire.SMALL);
        x.send(Wire.write(1, Wire.small(4)));
        x.send(Wire.watch(3, 2, 1));
        x.send(Wire.publish());
        for (int v = 1; v <= 3; v++) {
            x.poke(3, v);
        }
        x.send(Wire.watch(1, 1, 0));
        x.chunk(0, x.nextSequence(), IN_PART, Wire.pack(1, 0), 2);
        return x;
    }

    /** As busy(), with all the 16 nodes. */
    private static Client full() {
        Client x = busy();
        for (int node = 8; node < 16; node++) {
            x.folder(0);
        }
        return x;
    }

    private static Client closed() {
        Client x = busy();
        x.chunk(0, 700, IN_PART, 0, 0);
        return x;
    }

    /** All that can be seen of an object at once, and then what it does on from there. */
    private static List<Integer> everything(Client x, boolean closed) {
        List<Integer> seen = new ArrayList<>(List.of(x.isOpen() ? 1 : 0, x.part(), x.request(), x.parcels()));
        addAll(seen, x.answer());
        for (int i = 0; i < 6; i++) {
            seen.add(x.queue(i));
            seen.add(x.parcel(i));
        }
        for (int node = 0; node < 16; node++) {
            seen.add(x.size(node));
        }
        if (closed) {
            x.open();
        } else {
            seen.add(x.chunk(1, x.nextSequence(), IN_PART, 3, 1));
            addAll(seen, x.answer());
            addAll(seen, x.publishedNotices());
        }
        for (int node = 1; node <= 8; node++) {
            addAll(seen, x.send(Wire.read(node)));
            addAll(seen, x.send(Wire.browse(node, 1)));
        }
        addAll(seen, x.send(Wire.browse(0, 0)));
        seen.add(x.folder(0));
        return seen;
    }

    private static void addAll(List<Integer> seen, int[] bytes) {
        for (int b : bytes) {
            seen.add(b);
        }
    }

    private static void changesNothing(Check check, String what, Call call, int due) {
        Client x = busy();
        check.same(what, call.on(x), due);
        check.same(what + " changes nothing", everything(x, false).equals(everything(busy(), false)), true);
    }

    private static void folders(Check check) {
        for (int parent : OUTSIDE) {
            changesNothing(check, "folder(" + parent + ")", x -> x.folder(parent), -1);
        }
        for (int parent : new int[] {1, 2, 3, 4, 5, 7, 8, 15}) {
            changesNothing(check, "folder(" + parent + ")", x -> x.folder(parent), -1);
        }
        Client x = full();
        check.same("16 nodes", x.folder(0), -1);
        check.same("16 nodes, changes nothing", everything(x, false).equals(everything(full(), false)), true);
    }

    private static void variables(Check check) {
        for (int parent : OUTSIDE) {
            changesNothing(check, "variable(" + parent + ", 6)", x -> x.variable(parent, 6), -1);
        }
        for (int parent : new int[] {1, 2, 3, 4, 5, 7, 8, 15}) {
            changesNothing(check, "variable(" + parent + ", 6)", x -> x.variable(parent, 6), -1);
        }
        for (int type : new int[] {Integer.MIN_VALUE, -1, 2, 3, 4, 5, 7, 9, 10, 11, 13, 152, 256, 262}) {
            changesNothing(check, "variable(0, " + type + ")", x -> x.variable(0, type), -1);
        }
        for (int type : new int[] {0, 1, 6, 8, 12}) {
            Client x = full();
            check.same("16 nodes, type " + type, x.variable(0, type), -1);
            check.same("16 nodes, changes nothing", everything(x, false).equals(everything(full(), false)), true);
        }
    }

    private static void pokes(Check check) {
        for (int node : OUTSIDE) {
            changesNothing(check, "poke(" + node + ", 1)", x -> x.poke(node, 1) ? 1 : 0, 0);
        }
        for (int node : new int[] {0, 1, 5, 6, 8, 15}) {
            changesNothing(check, "poke(" + node + ", 1)", x -> x.poke(node, 1) ? 1 : 0, 0);
            changesNothing(check, "poke(" + node + ", 0)", x -> x.poke(node, 0) ? 1 : 0, 0);
        }
    }

    private static void chunks(Check check) {
        for (int kind : new int[] {Integer.MIN_VALUE, -1, 3, 4, 256, Integer.MAX_VALUE}) {
            changesNothing(check, "kind " + kind, x -> x.chunk(kind, x.nextSequence(), IN_PART, 3, 1), -1);
            changesNothing(check, "kind " + kind + ", else it would close", x -> x.chunk(kind, 900, 1, 3, 1), -1);
        }
        for (int kind = 0; kind < 3; kind++) {
            int k = kind;
            for (int below : new int[] {-1, -1000, Integer.MIN_VALUE}) {
                changesNothing(check, "sequence " + below, x -> x.chunk(k, below, IN_PART, 3, 1), -1);
                changesNothing(check, "request " + below, x -> x.chunk(k, x.nextSequence(), below, 3, 1), -1);
            }
            for (int count : new int[] {Integer.MIN_VALUE, -1, 9, 10, 64, 65, Integer.MAX_VALUE}) {
                changesNothing(check, "count " + count, x -> x.chunk(k, x.nextSequence(), IN_PART, 3, count), -1);
            }
        }
    }

    private static void chunksWhileClosed(Check check) {
        for (int kind = 0; kind < 3; kind++) {
            Client x = closed();
            check.same("closed", x.isOpen(), false);
            check.same("kind " + kind, x.chunk(kind, x.nextSequence(), IN_PART, 3, 1), -1);
            check.same("sequence 0", x.chunk(kind, 0, 1, Wire.pack(2, 0, 3, 6, 9, 9, 9, 9), 8), -1);
            check.same("changes nothing", everything(x, true).equals(everything(closed(), true)), true);
        }
    }

    private static void looks(Check check) {
        for (int i : OUTSIDE) {
            changesNothing(check, "queue(" + i + ")", x -> x.queue(i), -1);
            changesNothing(check, "parcel(" + i + ")", x -> x.parcel(i), -1);
            changesNothing(check, "size(" + i + ")", x -> x.size(i), -1);
            changesNothing(check, "answer(" + i + ")", x -> x.answer(i), -1);
        }
        changesNothing(check, "queue(2)", x -> x.queue(2), -1);
        changesNothing(check, "parcel(1)", x -> x.parcel(1), -1);
        changesNothing(check, "size(0)", x -> x.size(0), -1);
        Client x = new Client();
        check.same("part", x.part(), -1);
        check.same("request", x.request(), -1);
        check.same("changes nothing", everything(x, true).equals(everything(new Client(), true)), true);
    }
}
