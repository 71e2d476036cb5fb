/** Sends whole messages to a server in chunks that follow one another, and fetches the answers. */
final class Client {
    private static final int CHUNK = 8;
    private static final int MOST_CALLS = 512;
    final ChunkedNodes server;
    private int sequence = 1;
    private int request = 100;
    private int calls;

    Client(ChunkedNodes server) {
        this.server = server;
    }

    Client() {
        this(new ChunkedNodes());
    }

    int[] send(int... message) {
        request++;
        int from = 0;
        for (; message.length - from > CHUNK; from += CHUNK) {
            chunk(0, message, from, CHUNK);
        }
        int count = message.length - from;
        chunk(1, message, from, count);
        return answer();
    }

    private void chunk(int kind, int[] message, int from, int count) {
        server.chunk(kind, sequence++, request, Wire.pack(message, from, count), count);
        countCalls(1);
    }

    /** What an object answers after its 512th call is free, so no test may lean on it. */
    private void countCalls(int more) {
        calls += more;
        if (calls > MOST_CALLS) {
            throw new IllegalStateException("the test makes too many calls on one object");
        }
    }

    int[] answer() {
        int[] bytes = new int[server.answerLength()];
        countCalls(1 + bytes.length);
        for (int i = 0; i < bytes.length; i++) {
            bytes[i] = server.answer(i);
        }
        return bytes;
    }
}
