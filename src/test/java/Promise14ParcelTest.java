/** Promise 14: parcel. */
public final class Promise14ParcelTest {
    public static void main(String[] args) {
        Section section = new Section("Promise 14");
        section.sentence("The number of the parcel that is k-th (from 0) of those that are kept, the oldest first",
                Promise14ParcelTest::numbers);
        section.sentence("REFUSED if there is no such one", Promise14ParcelTest::noSuchOne);
        section.end();
    }

    private static void due(Check check, String what, Client x, int... numbers) {
        for (int k = 0; k < 3; k++) {
            check.same(what + ", " + k, x.parcel(k), k < numbers.length ? numbers[k] : -1);
        }
    }

    private static void numbers(Check check) {
        due(check, "none", Client.withParcels(0));
        due(check, "one", Client.withParcels(1), 1);
        due(check, "two", Client.withParcels(2), 1, 2);
        due(check, "three", Client.withParcels(3), 1, 2, 3);
        due(check, "four", Client.withParcels(4), 2, 3, 4);
        due(check, "seven", Client.withParcels(7), 5, 6, 7);
        int[][] left = {{2, 3}, {1, 3}, {1, 2}};
        for (int number = 1; number <= 3; number++) {
            Client x = Client.withParcels(3);
            x.send(Wire.publish(number));
            due(check, "without " + number, x, left[number - 1]);
            x.poke(1, 50);
            x.send(Wire.publish());
            due(check, "without " + number + ", and one more", x, left[number - 1][0], left[number - 1][1], 4);
        }
        Client x = Client.withParcels(3);
        x.send(Wire.again(1));
        due(check, "after AGAIN", x, 1, 2, 3);
        x.chunk(0, 900, 0, 0, 0);
        due(check, "the channel being closed", x, 1, 2, 3);
    }

    private static void noSuchOne(Check check) {
        for (int parcels = 0; parcels <= 4; parcels++) {
            Client x = Client.withParcels(parcels);
            int kept = Math.min(parcels, 3);
            for (int k : new int[] {kept, 3, 4, 255, 256, Integer.MAX_VALUE, -1, -2, Integer.MIN_VALUE}) {
                check.same("parcel " + k + " of " + kept, x.parcel(k), -1);
            }
            x.open();
            check.same("opened", x.parcel(0), -1);
        }
    }
}
