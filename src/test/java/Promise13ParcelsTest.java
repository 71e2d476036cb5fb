/** Promise 13: parcels. */
public final class Promise13ParcelsTest {
    public static void main(String[] args) {
        Section section = new Section("Promise 13");
        section.sentence("How many parcels are kept.", Promise13ParcelsTest::howMany);
        section.end();
    }

    private static void howMany(Check check) {
        Client x = Client.with(Wire.SMALL);
        check.same("new", x.parcels(), 0);
        x.send(Wire.watch(1, 1, 1));
        check.same("none yet", x.parcels(), 0);
        for (int n = 1; n < 6; n++) {
            x.send(Wire.publish());
            check.same("after " + n, x.parcels(), Math.min(n, 3));
            x.poke(1, n);
        }
        x.send(Wire.publish(4));
        check.same("one acknowledged, one new", x.parcels(), 3);
        x.send(Wire.publish(4));
        check.same("acknowledged again", x.parcels(), 3);
        x.send(Wire.again(6));
        check.same("sent again", x.parcels(), 3);
        x.send(Wire.publish(5, 5));
        check.same("one twice", x.parcels(), 2);
        x.chunk(0, 900, 0, 0, 0);
        check.same("the channel being closed", x.parcels(), 2);
        x.open();
        check.same("opened", x.parcels(), 0);
        x.send(Wire.watch(1, 1, 1));
        x.send(Wire.publish());
        check.same("one", x.parcels(), 1);
        x.send(Wire.publish(1, 2, 3, 0));
        check.same("all acknowledged", x.parcels(), 0);
    }
}
