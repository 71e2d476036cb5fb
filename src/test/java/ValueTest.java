/** Promise 7, values: what is read as one, what is not, and how it is written back. */
public final class ValueTest {
    private static final int[] DEEP1 = Wire.list();
    private static final int[] DEEP2 = Wire.list(DEEP1);
    private static final int[] DEEP3 = Wire.list(DEEP2);

    public static void main(String[] args) {
        Check check = new Check();
        kept(check);
        flags(check);
        depth(check);
        lengths(check);
        kinds(check);
        same(check);
        sameAfterLonger(check);
        cutAtTheEnd(check);
        check.end();
    }

    private static Client withAny() {
        Client client = new Client();
        client.server.variable(0, 0);
        return client;
    }

    private static void isKept(Check check, Client client, int[] value) {
        String what = java.util.Arrays.toString(value);
        check.bytes("write " + what, client.send(Wire.write(1, value)), 0);
        check.bytes("read " + what, client.send(Wire.read(1)), Wire.join(Wire.bytes(0), value));
        check.same("size of " + what, client.server.size(1), value.length);
    }

    private static void isNone(Check check, Client client, int... value) {
        int before = client.server.size(1);
        check.bytes(java.util.Arrays.toString(value), client.send(Wire.write(1, value)), 1);
        check.same("stays", client.server.size(1), before);
    }

    private static void kept(Check check) {
        int[][] values = {Wire.empty(), Wire.flag(0), Wire.flag(1), Wire.small(0),
            Wire.small(Integer.MIN_VALUE), Wire.small(-2), Wire.large(0), Wire.large(-3),
            Wire.large(Long.MIN_VALUE), Wire.noText(), Wire.text(), Wire.text(0), Wire.text(255, 128, 152),
            Wire.list(), Wire.list(Wire.empty()), Wire.list(Wire.noText(), Wire.text(1), Wire.flag(0)),
            Wire.list(Wire.small(1), Wire.large(2), Wire.list(Wire.empty(), Wire.flag(1)), Wire.small(3))};
        Client client = withAny();
        for (int[] value : values) {
            isKept(check, client, value);
        }
    }

    private static void flags(Check check) {
        Client client = withAny();
        client.server.variable(0, 1);
        for (int b : new int[] {1, 2, 7, 127, 128, 255}) {
            client.send(Wire.write(2, Wire.flag(0)));
            check.bytes("flag " + b, client.send(Wire.write(2, Wire.flag(b))), 0);
            check.bytes("is 1", client.send(Wire.read(2)), 0, 1, 1);
        }
        client.send(Wire.write(1, Wire.list(Wire.flag(9), Wire.list(Wire.flag(255), Wire.flag(0)))));
        check.bytes("in lists", client.send(Wire.read(1)),
                Wire.join(Wire.bytes(0), Wire.list(Wire.flag(1), Wire.list(Wire.flag(1), Wire.flag(0)))));
        client.send(Wire.watch(1, 4, 1));
        client.send(Wire.write(1, Wire.list(Wire.flag(3), Wire.list(Wire.flag(1), Wire.flag(0)))));
        check.same("the same as it is written", client.server.queue(0), 1);
    }

    private static void depth(Check check) {
        Client client = withAny();
        isKept(check, client, DEEP1);
        isKept(check, client, DEEP2);
        isKept(check, client, DEEP3);
        isKept(check, client, Wire.list(Wire.list(Wire.list(Wire.small(1), Wire.empty()))));
        isKept(check, client, Wire.list(DEEP2, DEEP1, DEEP2, Wire.flag(1)));
        isNone(check, client, Wire.list(DEEP3));
        isNone(check, client, Wire.list(DEEP1, Wire.flag(0), DEEP3));
        isNone(check, client, Wire.list(Wire.list(DEEP1, DEEP2)));
        isNone(check, client, Wire.list(Wire.list(DEEP3)));
        check.bytes("of no node too", client.send(Wire.write(9, Wire.list(DEEP3))), 1);
    }

    private static void lengths(Check check) {
        Client client = withAny();
        for (int length : new int[] {-2, -3, -256, Integer.MIN_VALUE, 1, 256, 65536, 16777216, Integer.MAX_VALUE}) {
            isNone(check, client, Wire.join(Wire.bytes(12), Wire.number(length, 4)));
            isNone(check, client, Wire.join(Wire.bytes(152), Wire.number(length, 4)));
        }
        isNone(check, client, Wire.join(Wire.bytes(152), Wire.number(-1, 4)));
        isNone(check, client, Wire.join(Wire.noText(), Wire.bytes(1)));
        isNone(check, client, Wire.join(Wire.bytes(12), Wire.number(2, 4), Wire.bytes(1)));
        isNone(check, client, Wire.join(Wire.bytes(12), Wire.number(2, 4), Wire.bytes(1, 2, 3)));
        isNone(check, client, Wire.join(Wire.bytes(152), Wire.number(2, 4), Wire.bytes(0)));
        isNone(check, client, Wire.join(Wire.bytes(152), Wire.number(1, 4), Wire.bytes(0, 0)));
        isNone(check, client, Wire.join(Wire.bytes(152), Wire.number(2, 4), Wire.text(0), Wire.bytes(12)));
        int[][] many = new int[56][];
        java.util.Arrays.fill(many, Wire.empty());
        isKept(check, client, Wire.list(many));
    }

    private static void kinds(Check check) {
        for (int kind = 0; kind < 256; kind++) {
            boolean known = kind == 0 || kind == 1 || kind == 6 || kind == 8 || kind == 12 || kind == 152;
            if (!known) {
                Client client = withAny();
                isNone(check, client, kind);
                isNone(check, client, kind, 0);
                isNone(check, client, kind, 0, 0, 0, 0);
                isNone(check, client, kind, 0, 0, 0, 0, 0, 0, 0, 0);
                isNone(check, client, Wire.list(Wire.bytes(kind)));
            }
        }
    }

    /** Values whose bytes differ are not the same, whatever they mean. */
    private static void same(Check check) {
        Client client = withAny();
        client.send(Wire.watch(1, 4, 1));
        int[][] values = {Wire.small(0), Wire.large(0), Wire.noText(), Wire.small(-1), Wire.text(0), Wire.text(1),
            Wire.text(), Wire.list(), Wire.small(0), Wire.flag(0), Wire.flag(1), Wire.empty()};
        for (int[] value : values) {
            client.send(Wire.publish());
            check.bytes("write", client.send(Wire.write(1, value)), 0);
            check.same("another", client.server.queue(0), 1);
            check.bytes("write again", client.send(Wire.write(1, value)), 0);
            check.same("the same", client.server.queue(0), 1);
        }
    }

    /** What stood behind a shorter value before is no part of it. */
    private static void sameAfterLonger(Check check) {
        Client client = withAny();
        client.server.variable(0, 0);
        client.send(Wire.write(1, Wire.text(1, 2, 3)));
        client.send(Wire.write(1, Wire.text(1)));
        client.send(Wire.watch(1, 4, 1));
        client.send(Wire.write(2, Wire.text(1, 7, 7)));
        client.send(Wire.write(1, Wire.text(1)));
        check.same("the same after longer ones", client.server.queue(0), 1);
    }

    /** Values that break off where the longest message ends. */
    private static void cutAtTheEnd(Check check) {
        int[][] ends = {Wire.bytes(1), Wire.bytes(6), Wire.bytes(8, 0, 0), Wire.bytes(12), Wire.bytes(152, 0, 0, 0),
            Wire.bytes(12, 1, 0, 0, 0), Wire.bytes(152, 1, 0, 0, 0)};
        for (int[] end : ends) {
            int[] text = Wire.text(new int[51 - end.length]);
            int[] value = Wire.join(Wire.bytes(152), Wire.number(2, 4), text, end);
            check.same("64 bytes", Wire.write(1, value).length, 64);
            isNone(check, withAny(), value);
        }
    }
}
