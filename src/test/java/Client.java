/** Sends whole messages to a server in chunks that follow one another, and fetches the answers. */
final class Client {
    private static final int CHUNK = 8;
    final ChunkedNodes server;
    private int sequence = 1;
    private int request = 100;

    Client(ChunkedNodes server) {
        this.server = server;
    }

    Client() {
        this(new ChunkedNodes());
    }

    int[] send(int... message) {
        request++;
        int from = 0;
        for (; message.length - from > CHUNK; from += CHUNK) {
            server.chunk(0, sequence++, request, Wire.pack(message, from, CHUNK), CHUNK);
        }
        int count = message.length - from;
        server.chunk(1, sequence++, request, Wire.pack(message, from, count), count);
        return answer();
    }

    int[] answer() {
        int[] bytes = new int[server.answerLength()];
        for (int i = 0; i < bytes.length; i++) {
            bytes[i] = server.answer(i);
        }
        return bytes;
    }
}
