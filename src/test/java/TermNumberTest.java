/** Terms: BYTES and NUMBERS. */
public final class TermNumberTest {
    public static void main(String[] args) {
        Section section = new Section("Terms, BYTES and NUMBERS");
        section.sentence("BYTES are 0 .. 255", TermNumberTest::bytes);
        section.sentence("A NUMBER of k bytes has the lowest byte first", TermNumberTest::lowestFirst);
        section.sentence("of 4 or 8 bytes it is signed (two's complement)", TermNumberTest::signed);
        section.end();
    }

    private static void bytes(Check check) {
        int[] edges = {0, 1, 127, 128, 129, 254, 255};
        Client x = Client.with(Wire.TEXT);
        check.bytes("WRITE", x.send(Wire.write(1, Wire.text(edges))), 0);
        check.bytes("READ", x.send(Wire.read(1)), Wire.valueAnswer(Wire.text(edges)));
        for (int place = 0; place < 8; place++) {
            int[] text = new int[8];
            text[place] = 255;
            x.send(Wire.write(1, Wire.text(text)));
            check.bytes("255 at " + place, x.send(Wire.read(1)), Wire.valueAnswer(Wire.text(text)));
        }
    }

    private static void lowestFirst(Check check) {
        Client x = Client.with(Wire.SMALL, Wire.LARGE, Wire.TEXT);
        x.poke(1, 0x04030201);
        check.bytes("4 bytes", x.send(Wire.read(1)), 0, 6, 1, 2, 3, 4);
        x.poke(2, 0x0807060504030201L);
        check.bytes("8 bytes", x.send(Wire.read(2)), 0, 8, 1, 2, 3, 4, 5, 6, 7, 8);
        check.bytes("2 bytes", x.send(1, 1, 0, 1, 0), 0, 6, 1, 2, 3, 4);
        check.bytes("2 bytes, the highest first", x.send(1, 1, 0, 0, 1), 3);
        check.bytes("a length", x.send(2, 0, 3, 12, 2, 0, 0, 0, 7, 7), 0);
        check.bytes("a length, the highest first", x.send(2, 0, 3, 12, 0, 0, 0, 2, 7, 7), 1);
        x.send(Wire.watch(1, 1, 0));
        check.bytes("a parcel's", x.send(Wire.publish()), 0, 1, 0, 0, 0, 1, 0, 6, 1, 2, 3, 4, 0);
        check.bytes("AGAIN, the highest first", x.send(6, 0, 0, 0, 1), 8);
        x.send(5, 1, 0, 0, 0, 1);
        check.same("PUBLISH, the highest first", x.parcels(), 1);
        x.send(5, 1, 1, 0, 0, 0);
        check.same("PUBLISH, the lowest first", x.parcels(), 0);
    }

    private static void signed(Check check) {
        Client x = Client.with(Wire.SMALL, Wire.LARGE, Wire.TEXT, Wire.ANY);
        check.same("-1 is not 0", x.poke(1, -1), true);
        check.bytes("-1 in 4 bytes", x.send(Wire.read(1)), 0, 6, 255, 255, 255, 255);
        x.poke(1, Integer.MIN_VALUE);
        check.bytes("the least of 4 bytes", x.send(Wire.read(1)), 0, 6, 0, 0, 0, 128);
        x.poke(1, Integer.MAX_VALUE);
        check.bytes("the greatest of 4 bytes", x.send(Wire.read(1)), 0, 6, 255, 255, 255, 127);
        x.poke(2, -1);
        check.bytes("-1 in 8 bytes", x.send(Wire.read(2)), 0, 8, 255, 255, 255, 255, 255, 255, 255, 255);
        x.poke(2, Long.MIN_VALUE);
        check.bytes("the least of 8 bytes", x.send(Wire.read(2)), 0, 8, 0, 0, 0, 0, 0, 0, 0, 128);
        x.poke(2, Long.MAX_VALUE);
        check.bytes("the greatest of 8 bytes", x.send(Wire.read(2)), 0, 8, 255, 255, 255, 255, 255, 255, 255, 127);
        check.bytes("the length -1", x.send(2, 0, 3, 12, 255, 255, 255, 255), 0);
        check.bytes("the length -2", x.send(2, 0, 3, 12, 254, 255, 255, 255), 1);
        check.bytes("the least length", x.send(2, 0, 3, 12, 0, 0, 0, 128), 1);
        check.bytes("a list of -1", x.send(2, 0, 4, 152, 255, 255, 255, 255), 1);
    }
}
