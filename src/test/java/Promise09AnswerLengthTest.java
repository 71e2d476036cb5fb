/** Promise 9: answerLength. */
public final class Promise09AnswerLengthTest {
    public static void main(String[] args) {
        Section section = new Section("Promise 9");
        section.sentence("How many bytes the latest answer has", Promise09AnswerLengthTest::howMany);
        section.sentence("0 if there was none since the channel was opened", Promise09AnswerLengthTest::none);
        section.end();
    }

    private static void howMany(Check check) {
        Client x = Client.with(Wire.LARGE);
        x.send(Wire.read(1));
        check.same("READ", x.answerLength(), 10);
        x.send(Wire.read(9));
        check.same("a code alone", x.answerLength(), 1);
        x.send(Wire.browse(0, 0));
        check.same("BROWSE", x.answerLength(), 4);
        x.more(1);
        check.same("a message in part leaves it", x.answerLength(), 4);
        x.abort();
        check.same("an ABORT leaves it", x.answerLength(), 4);
        x.poke(1, 7);
        check.same("poke leaves it", x.answerLength(), 4);
        x.chunk(0, 900, 0, 0, 0);
        check.same("closing leaves it", x.answerLength(), 4);
        check.same("the longest", longest(), 1 + 4 + 1 + 3 * (1 + 61 + 1));
    }

    private static int longest() {
        Client x = Client.with(Wire.TEXT);
        x.send(Wire.watch(1, 3, 0));
        x.send(Wire.publish());
        for (int i = 1; i <= 3; i++) {
            int[] text = new int[56];
            text[0] = i;
            x.send(Wire.write(1, Wire.text(text)));
        }
        x.send(Wire.publish());
        return x.answerLength();
    }

    private static void none(Check check) {
        Client x = Client.with(Wire.SMALL);
        check.same("new", x.answerLength(), 0);
        x.more(1, 0);
        check.same("in part", x.answerLength(), 0);
        x.last(1);
        check.same("answered", x.answerLength(), 6);
        x.open();
        check.same("opened", x.answerLength(), 0);
        x.abort();
        check.same("an ABORT", x.answerLength(), 0);
        x.chunk(0, 900, 0, 0, 0);
        check.same("closed", x.answerLength(), 0);
    }
}
