import java.util.Arrays;

/** An object of the class with all its calls; numbers chunks, sends whole messages, fetches whole answers. */
final class Client {
    private static final int CHUNK = 8;
    private static final int MOST_CALLS = 512;
    private final ChunkedNodes server = new ChunkedNodes();
    private int nextSequence = 1;
    private int request = 100;
    private int calls;

    /** A new object with variables of these types in node 0: the nodes 1, 2 and so on. */
    static Client with(int... types) {
        Client x = new Client();
        for (int type : types) {
            x.variable(0, type);
        }
        return x;
    }

    /** A new object with a SMALL, node 1, which became 1, 2 and so on; each is in a parcel, and none is waiting. */
    static Client withParcels(int parcels) {
        Client x = with(Wire.SMALL);
        x.send(Wire.watch(1, 1, 1));
        for (int n = 1; n <= parcels; n++) {
            x.poke(1, n);
            x.send(Wire.publish());
        }
        return x;
    }

    /** What an object answers after its 512th call is free, so no test may lean on it. */
    private ChunkedNodes call() {
        calls++;
        if (calls > MOST_CALLS) {
            throw new IllegalStateException("the test makes too many calls on one object");
        }
        return server;
    }

    void open() {
        call().open();
    }

    boolean isOpen() {
        return call().isOpen();
    }

    int folder(int parent) {
        return call().folder(parent);
    }

    int variable(int parent, int type) {
        return call().variable(parent, type);
    }

    boolean poke(int node, long v) {
        return call().poke(node, v);
    }

    int chunk(int kind, int sequence, int request, long bytes, int count) {
        int got = call().chunk(kind, sequence, request, bytes, count);
        if (got == 0 || got == 1) {
            nextSequence = sequence == Integer.MAX_VALUE ? 0 : sequence + 1;
        }
        return got;
    }

    int part() {
        return call().part();
    }

    int answerLength() {
        return call().answerLength();
    }

    int answer(int i) {
        return call().answer(i);
    }

    int request() {
        return call().request();
    }

    int queue(int i) {
        return call().queue(i);
    }

    int parcels() {
        return call().parcels();
    }

    int parcel(int k) {
        return call().parcel(k);
    }

    int size(int node) {
        return call().size(node);
    }

    /** The request number that more(), last() and abort() use. */
    int latestRequest() {
        return request;
    }

    int nextSequence() {
        return nextSequence;
    }

    int more(int... bytes) {
        return chunk(0, nextSequence, request, Wire.pack(bytes), bytes.length);
    }

    int last(int... bytes) {
        return chunk(1, nextSequence, request, Wire.pack(bytes), bytes.length);
    }

    int abort(int... bytes) {
        return chunk(2, nextSequence, request, Wire.pack(bytes), bytes.length);
    }

    /** Sends a message in as few chunks as it needs, under a request number of its own. */
    int[] send(int... message) {
        request++;
        int from = 0;
        for (; message.length - from > CHUNK; from += CHUNK) {
            more(Arrays.copyOfRange(message, from, from + CHUNK));
        }
        if (last(Arrays.copyOfRange(message, from, message.length)) != 1) {
            throw new IllegalStateException("the message was not answered");
        }
        return answer();
    }

    int[] answer() {
        int[] bytes = new int[answerLength()];
        for (int i = 0; i < bytes.length; i++) {
            bytes[i] = answer(i);
        }
        return bytes;
    }

    /** The notices of all items, as PUBLISH gives them parcel by parcel until there are none. */
    int[] publishedNotices() {
        int[] all = new int[0];
        int[] answer = send(Wire.publish());
        for (int parcels = 0; parcels < 8 && answer[0] == 0; parcels++) {
            all = Wire.join(all, Arrays.copyOfRange(answer, 6, answer.length));
            answer = send(Wire.publish());
        }
        return all;
    }
}
