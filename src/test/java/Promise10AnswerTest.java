/** Promise 10: answer. */
public final class Promise10AnswerTest {
    private static final int[] OUTSIDE = {Integer.MIN_VALUE, -256, -1, 195, 196, 256, Integer.MAX_VALUE};

    public static void main(String[] args) {
        Section section = new Section("Promise 10");
        section.sentence("Byte i of the latest answer", Promise10AnswerTest::bytes);
        section.sentence("REFUSED if it has no such byte", Promise10AnswerTest::noSuchByte);
        section.end();
    }

    private static void bytes(Check check) {
        Client x = Client.with(Wire.SMALL);
        x.poke(1, 0x80FF7F01L);
        x.send(Wire.read(1));
        int[] due = {0, 6, 0x01, 0x7F, 0xFF, 0x80};
        for (int i = 0; i < due.length; i++) {
            check.same("byte " + i, x.answer(i), due[i]);
        }
        x.poke(1, 0);
        x.more(1);
        check.same("as it was", x.answer(2), 1);
        check.same("once more", x.answer(5), 0x80);
        x.abort();
        x.send(Wire.browse(0, 0));
        x.folder(0);
        check.bytes("names as they were", x.answer(), Wire.namesAnswer(1));
        x.send(Wire.watch(1, 1, 1));
        int[] parcel = x.send(Wire.publish());
        x.poke(1, 9);
        check.bytes("a parcel as it was", x.answer(), parcel);
        x.send(Wire.read(5));
        check.same("the latest one", x.answer(0), 3);
        x.chunk(0, 900, 0, 0, 0);
        check.same("the channel being closed", x.answer(0), 3);
    }

    private static void noSuchByte(Check check) {
        Client x = Client.with(Wire.SMALL);
        check.same("no answer", x.answer(0), -1);
        x.send(Wire.read(1));
        for (int i : OUTSIDE) {
            check.same("byte " + i, x.answer(i), -1);
        }
        check.same("the last byte", x.answer(5), 0);
        check.same("one behind it", x.answer(6), -1);
        x.send(Wire.read(5));
        for (int i = 1; i < 6; i++) {
            check.same("nothing of a longer one before", x.answer(i), -1);
        }
        x.open();
        check.same("opened", x.answer(0), -1);
    }
}
