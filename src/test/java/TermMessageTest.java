import java.util.Arrays;

/** Terms: MESSAGES and ANSWERS, before what belongs to one service. */
public final class TermMessageTest {
    private static final int FOLDER = 0;
    private static final int ANY = 1;
    private static final int SMALL = 2;
    private static final int NONE = 3;

    public static void main(String[] args) {
        Section section = new Section("Terms, MESSAGES and ANSWERS");
        section.sentence("A message without bytes has the answer 1", TermMessageTest::withoutBytes);
        section.sentence("one whose service is none of these 2", TermMessageTest::noService);
        section.sentence("one that is not exactly as written here 1", TermMessageTest::notExactly);
        section.sentence("an answer is a byte, its code, and, if that is 0, what belongs to it",
                TermMessageTest::codeAlone);
        section.sentence("Then, the first that holds of what stands behind the service",
                TermMessageTest::firstThatHolds);
        section.end();
    }

    private static Client server() {
        return Client.with(Wire.ANY, Wire.SMALL);
    }

    private static void withoutBytes(Check check) {
        Client x = server();
        check.bytes("a LAST alone", x.send(), 1);
        x.more();
        x.more();
        check.same("three chunks without bytes", x.last(), 1);
        check.bytes("its answer", x.answer(), 1);
        check.same("its request", x.request(), x.latestRequest());
    }

    private static void noService(Check check) {
        for (int service = 0; service < 256; service++) {
            if (service < 1 || service > 6) {
                Client x = server();
                check.bytes("service " + service, x.send(service), 2);
                check.bytes("service " + service + " and a name", x.send(service, 0, 1), 2);
                check.bytes("service " + service + " and much", x.send(Wire.join(Wire.bytes(service), new int[63])), 2);
            }
        }
        for (int service = 1; service <= 6; service++) {
            check.bytes("service " + service, server().send(service), 1);
        }
    }

    private static int[][] messages() {
        return new int[][] {
            Wire.read(ANY), Wire.read(NONE), Wire.read(FOLDER), Wire.join(Wire.bytes(1), Wire.longName(0, ANY)),
            Wire.write(ANY, Wire.empty()), Wire.write(ANY, Wire.flag(1)), Wire.write(SMALL, Wire.small(5)),
            Wire.write(ANY, Wire.large(5)), Wire.write(ANY, Wire.text(7)), Wire.write(ANY, Wire.noText()),
            Wire.write(ANY, Wire.list(Wire.flag(1))), Wire.write(NONE, Wire.small(1)),
            Wire.write(FOLDER, Wire.small(1)), Wire.write(SMALL, Wire.large(1)), Wire.browse(FOLDER, 0),
            Wire.browse(ANY, 1), Wire.browse(NONE, 0), Wire.watch(ANY, 1, 0), Wire.watch(NONE, 4, 1),
            Wire.watch(FOLDER, 4, 1), Wire.publish(), Wire.publish(1), Wire.publish(1, 2, 3, 4), Wire.again(1)};
    }

    /** Every message is cut anywhere behind its service, and has one byte, or eight, too many. */
    private static void notExactly(Check check) {
        for (int[] message : messages()) {
            for (int length = 1; length < message.length; length++) {
                isNotAsWritten(check, Arrays.copyOf(message, length));
            }
            isNotAsWritten(check, Wire.join(message, Wire.bytes(0)));
            isNotAsWritten(check, Wire.join(message, Wire.bytes(1)));
            isNotAsWritten(check, Wire.join(message, new int[8]));
        }
    }

    private static void isNotAsWritten(Check check, int[] message) {
        Client x = server();
        x.send(Wire.watch(SMALL, 4, 1));
        x.send(Wire.publish());
        x.poke(SMALL, 3);
        String what = Arrays.toString(message);
        check.bytes(what, x.send(message), 1);
        check.same("no item by " + what, x.queue(1), -1);
        check.same("no notice by or in a parcel by " + what, x.queue(0), 1);
        check.same("no parcel acknowledged by " + what, x.parcel(0), 1);
        check.same("no parcel by " + what, x.parcels(), 1);
        check.same("no value by " + what, x.size(ANY), 1);
        check.same("nor by " + what, x.poke(SMALL, 3), false);
    }

    private static void codeAlone(Check check) {
        Client x = server();
        x.send(Wire.read(SMALL));
        int[][] messages = {{}, {9}, {1}, Wire.read(NONE), Wire.read(FOLDER), Wire.write(SMALL, Wire.flag(1)),
            Wire.publish(), Wire.again(1)};
        int[] codes = {1, 2, 1, 3, 4, 5, 7, 8};
        for (int i = 0; i < messages.length; i++) {
            x.send(Wire.read(SMALL));
            check.bytes("code " + codes[i], x.send(messages[i]), codes[i]);
            check.same("one byte", x.answerLength(), 1);
            check.same("no second", x.answer(1), -1);
        }
        check.bytes("WRITE has nothing behind 0", x.send(Wire.write(SMALL, Wire.small(1))), 0);
    }

    private static void firstThatHolds(Check check) {
        Client x = server();
        check.bytes("READ: 1 before 3", x.send(Wire.join(Wire.read(NONE), Wire.bytes(0))), 1);
        check.bytes("READ: 1 before 4", x.send(Wire.join(Wire.read(FOLDER), Wire.bytes(0))), 1);
        check.bytes("WRITE: 1 before 3", x.send(Wire.write(NONE, Wire.bytes(2))), 1);
        check.bytes("WRITE: 1 before 4", x.send(Wire.write(FOLDER, Wire.bytes(2))), 1);
        check.bytes("WRITE: 1 before 5", x.send(Wire.write(SMALL, Wire.bytes(8, 0))), 1);
        check.bytes("BROWSE: 1 before 3", x.send(Wire.browse(NONE, 2)), 1);
        for (int i = 0; i < 6; i++) {
            x.send(Wire.watch(ANY, 1, 0));
        }
        check.bytes("WATCH: 1 before 3", x.send(Wire.join(Wire.bytes(4), Wire.name(NONE), Wire.bytes(1))), 1);
        check.bytes("WATCH: 1 before 6", x.send(Wire.join(Wire.watch(ANY, 1, 1), Wire.bytes(1))), 1);
        check.bytes("WATCH: 3 before 6", x.send(Wire.watch(NONE, 1, 1)), 3);
        check.bytes("WATCH: 4 before 6", x.send(Wire.watch(FOLDER, 1, 1)), 4);
        check.bytes("WATCH: 6", x.send(Wire.watch(ANY, 1, 1)), 6);
        x.publishedNotices();
        check.bytes("PUBLISH: 1 before 7", x.send(5, 0, 0), 1);
        check.bytes("PUBLISH: 7", x.send(5, 0), 7);
        check.bytes("AGAIN: 1 before 8", x.send(6, 99, 0, 0), 1);
        check.bytes("AGAIN: 8", x.send(6, 99, 0, 0, 0), 8);
    }
}
