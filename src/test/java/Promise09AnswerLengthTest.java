/** Promise 9: answerLength. */
public final class Promise09AnswerLengthTest {
    public static void main(String[] args) {
        Check check = new Check();
        Client client = new Client();
        ChunkedNodes x = client.server;
        check.same("none", x.answerLength(), 0);
        x.variable(0, 8);
        client.send(Wire.read(1));
        check.same("READ", x.answerLength(), 10);
        client.send(Wire.read(9));
        check.same("a code alone", x.answerLength(), 1);
        client.send(Wire.browse(0, 0));
        check.same("BROWSE", x.answerLength(), 4);
        x.chunk(0, 4, 1, 0, 8);
        check.same("a message in part leaves it", x.answerLength(), 4);
        x.chunk(2, 5, 1, 0, 8);
        check.same("an ABORT leaves it", x.answerLength(), 4);
        x.chunk(0, 5, 1, 0, 8);
        check.same("closing leaves it", x.answerLength(), 4);
        x.open();
        check.same("opened", x.answerLength(), 0);
        check.same("the longest answer", longest(), 195);
        check.end();
    }

    private static int longest() {
        Client client = new Client();
        client.server.variable(0, 12);
        client.send(Wire.watch(1, 3, 0));
        client.send(Wire.publish());
        for (int i = 1; i <= 3; i++) {
            int[] text = new int[56];
            text[0] = i;
            client.send(Wire.write(1, Wire.text(text)));
        }
        client.send(Wire.publish());
        return client.server.answerLength();
    }
}
