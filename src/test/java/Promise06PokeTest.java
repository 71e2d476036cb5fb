/** Promise 6: poke. */
public final class Promise06PokeTest {
    public static void main(String[] args) {
        Check check = new Check();
        flag(check);
        small(check);
        large(check);
        refusals(check);
        notices(check);
        check.end();
    }

    private static void flag(Check check) {
        Client client = new Client();
        ChunkedNodes x = client.server;
        x.variable(0, 1);
        check.same("0 is there", x.poke(1, 0), false);
        check.same("256 is 1", x.poke(1, 256), true);
        check.bytes("1", client.send(Wire.read(1)), 0, 1, 1);
        check.same("1 is there", x.poke(1, 1), false);
        check.same("-1 is 1 too", x.poke(1, -1), false);
        check.same("2 to the 32 is 1 too", x.poke(1, 1L << 32), false);
        check.same("0 again", x.poke(1, 0), true);
        check.bytes("0", client.send(Wire.read(1)), 0, 1, 0);
    }

    private static void small(Check check) {
        Client client = new Client();
        ChunkedNodes x = client.server;
        x.variable(0, 6);
        check.same("4 bytes are 0", x.poke(1, 1L << 32), false);
        check.same("0x89ABCDEF", x.poke(1, 0x7123456789ABCDEFL), true);
        check.bytes("lowest first", client.send(Wire.read(1)), 0, 6, 0xEF, 0xCD, 0xAB, 0x89);
        check.same("the same 4 bytes", x.poke(1, 0x89ABCDEFL), false);
        check.same("the highest byte", x.poke(1, 0x99ABCDEFL), true);
        check.same("the lowest byte", x.poke(1, 0x99ABCDEEL), true);
        check.same("-1", x.poke(1, -1), true);
        check.same("4294967295", x.poke(1, 4294967295L), false);
    }

    private static void large(Check check) {
        Client client = new Client();
        ChunkedNodes x = client.server;
        x.variable(0, 8);
        check.same("0", x.poke(1, 0), false);
        check.same("the highest byte alone", x.poke(1, 1L << 56), true);
        check.same("8 bytes", x.poke(1, 0xFEDCBA9876543210L), true);
        check.bytes("lowest first", client.send(Wire.read(1)),
                0, 8, 0x10, 0x32, 0x54, 0x76, 0x98, 0xBA, 0xDC, 0xFE);
        check.same("again", x.poke(1, 0xFEDCBA9876543210L), false);
        check.same("least", x.poke(1, Long.MIN_VALUE), true);
        check.same("greatest", x.poke(1, Long.MAX_VALUE), true);
    }

    private static void refusals(Check check) {
        Client client = new Client();
        ChunkedNodes x = client.server;
        x.variable(0, 0);
        x.variable(0, 12);
        x.folder(0);
        client.send(Wire.write(1, Wire.small(4)));
        check.same("ANY", x.poke(1, 1), false);
        check.bytes("ANY stays", client.send(Wire.read(1)), 0, 6, 4, 0, 0, 0);
        check.same("TEXT", x.poke(2, 1), false);
        check.bytes("TEXT stays", client.send(Wire.read(2)), 0, 12, 255, 255, 255, 255);
        for (int node : new int[] {0, 3, 4, 15, 16, -1, Integer.MIN_VALUE, Integer.MAX_VALUE}) {
            check.same("node " + node, x.poke(node, 1), false);
        }
    }

    private static void notices(Check check) {
        Client client = new Client();
        ChunkedNodes x = client.server;
        x.variable(0, 6);
        x.variable(0, 6);
        client.send(Wire.watch(1, 4, 0));
        client.send(Wire.watch(2, 4, 0));
        client.send(Wire.watch(1, 4, 0));
        x.poke(1, 3);
        check.same("item 0", x.queue(0), 2);
        check.same("item 1 watches another", x.queue(1), 1);
        check.same("item 2 too", x.queue(2), 2);
        x.poke(1, 3);
        check.same("the same value", x.queue(0), 2);
        x.chunk(1, 99, 1, 0, 0);
        check.same("closed", x.isOpen(), false);
        check.same("poke while closed", x.poke(1, 4), true);
        check.same("a notice while closed", x.queue(0), 3);
    }
}
