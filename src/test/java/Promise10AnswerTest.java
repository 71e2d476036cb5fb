/** Promise 10: answer. */
public final class Promise10AnswerTest {
    public static void main(String[] args) {
        Check check = new Check();
        Client client = new Client();
        ChunkedNodes x = client.server;
        check.same("none", x.answer(0), -1);
        x.variable(0, 6);
        x.poke(1, 0x80FF7F01L);
        client.send(Wire.read(1));
        int[] due = {0, 6, 0x01, 0x7F, 0xFF, 0x80};
        for (int i = 0; i < due.length; i++) {
            check.same("byte " + i, x.answer(i), due[i]);
        }
        for (int i : new int[] {6, 7, 194, 195, 196, -1, Integer.MIN_VALUE, Integer.MAX_VALUE}) {
            check.same("no byte " + i, x.answer(i), -1);
        }
        client.send(Wire.read(5));
        check.same("the code", x.answer(0), 3);
        check.same("nothing of the one before", x.answer(1), -1);
        x.open();
        check.same("opened", x.answer(0), -1);
        check.end();
    }
}
