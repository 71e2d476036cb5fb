/** Terms, the service 6 AGAIN. */
public final class ServiceAgainTest {
    public static void main(String[] args) {
        Section section = new Section("Terms, 6 AGAIN");
        section.sentence("8 if no kept parcel has it", ServiceAgainTest::notKept);
        section.sentence("a number of 4 bytes", ServiceAgainTest::fourBytes);
        section.sentence("else 0 and that parcel, as it was", ServiceAgainTest::asItWas);
        section.end();
    }

    private static void notKept(Check check) {
        check.bytes("no parcel at all", new Client().send(Wire.again(1)), 8);
        check.bytes("0 when there is none", new Client().send(Wire.again(0)), 8);
        Client x = Client.withParcels(5);
        for (int number : new int[] {0, 1, 2, 6, -1, -3, 255, 259, Integer.MIN_VALUE, Integer.MAX_VALUE}) {
            check.bytes("number " + number, x.send(Wire.again(number)), 8);
        }
        for (int number = 3; number <= 5; number++) {
            check.same("number " + number, x.send(Wire.again(number))[0], 0);
        }
        x.send(Wire.publish(4));
        check.bytes("acknowledged", x.send(Wire.again(4)), 8);
        check.same("the one before it stays", x.send(Wire.again(3))[0], 0);
        check.same("the one behind it stays", x.send(Wire.again(5))[0], 0);
        x.send(Wire.publish(3, 5));
        check.bytes("all are acknowledged", x.send(Wire.again(5)), 8);
        Client y = Client.withParcels(2);
        y.open();
        check.bytes("opened anew", y.send(Wire.again(1)), 8);
    }

    private static void fourBytes(Check check) {
        Client x = Client.withParcels(1);
        check.same("4 bytes", x.send(6, 1, 0, 0, 0)[0], 0);
        check.bytes("none", x.send(6), 1);
        check.bytes("1", x.send(6, 1), 1);
        check.bytes("3", x.send(6, 1, 0, 0), 1);
        check.bytes("5", x.send(6, 1, 0, 0, 0, 0), 1);
        for (int place = 1; place < 4; place++) {
            int[] number = {1, 0, 0, 0};
            number[place] = 1;
            check.bytes("byte " + place + " counts", x.send(Wire.join(Wire.bytes(6), number)), 8);
        }
    }

    private static void asItWas(Check check) {
        Client x = Client.with(Wire.SMALL, Wire.TEXT);
        x.send(Wire.watch(1, 2, 1));
        x.send(Wire.watch(2, 1, 1));
        x.poke(1, 1);
        x.poke(1, 2);
        int[] first = x.send(Wire.publish());
        check.bytes("the first", first, Wire.parcel(1, Wire.notice(0, Wire.small(1), 1),
                Wire.notice(0, Wire.small(2), 0), Wire.notice(1, Wire.noText(), 0)));
        x.poke(1, 3);
        x.send(Wire.write(2, Wire.text(1, 2, 3)));
        int[] second = x.send(Wire.publish());
        x.poke(1, 4);
        check.bytes("the first after other values", x.send(Wire.again(1)), first);
        check.bytes("the first a second time", x.send(Wire.again(1)), first);
        check.bytes("the second", x.send(Wire.again(2)), second);
        check.same("both are kept", x.parcels(), 2);
        check.same("the queue stays", x.queue(0), 1);
        int[] third = x.send(Wire.publish());
        check.bytes("the number goes on by one", third, Wire.parcel(3, Wire.notice(0, Wire.small(4), 0)));
        x.poke(1, 5);
        x.send(Wire.publish(2));
        check.bytes("the first still", x.send(Wire.again(1)), first);
        check.bytes("the third", x.send(Wire.again(3)), third);
    }
}
