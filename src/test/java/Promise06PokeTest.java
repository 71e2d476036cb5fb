/** Promise 6: poke. */
public final class Promise06PokeTest {
    public static void main(String[] args) {
        Section section = new Section("Promise 6");
        section.sentence("of type 1: 1 if v is not 0", Promise06PokeTest::flag);
        section.sentence("of type 6: the lowest 4 bytes of v", Promise06PokeTest::small);
        section.sentence("The value of a variable of type 1, 6 or 8 becomes this one", Promise06PokeTest::large);
        section.sentence("Answers whether it was not the same before", Promise06PokeTest::answers);
        section.sentence("refused with false if node is no variable of such a type", Promise06PokeTest::refused);
        section.end();
    }

    private static void flag(Check check) {
        for (long v : new long[] {1, 2, -1, 256, 1L << 32, 1L << 63, Long.MAX_VALUE}) {
            Client x = Client.with(Wire.FLAG);
            check.same("v " + v, x.poke(1, v), true);
            check.bytes("v " + v, x.send(Wire.read(1)), 0, 1, 1);
            check.same("1 is there", x.poke(1, 1), false);
            check.same("0 is not", x.poke(1, 0), true);
            check.bytes("0", x.send(Wire.read(1)), 0, 1, 0);
        }
    }

    private static void small(Check check) {
        Client x = Client.with(Wire.SMALL);
        check.same("the lowest 4 are 0", x.poke(1, 1L << 32), false);
        check.same("the lowest 4 are 0", x.poke(1, Long.MIN_VALUE), false);
        check.same("another", x.poke(1, 0x7123456789ABCDEFL), true);
        check.bytes("its lowest 4", x.send(Wire.read(1)), 0, 6, 0xEF, 0xCD, 0xAB, 0x89);
        check.same("the same 4", x.poke(1, 0x89ABCDEFL), false);
        check.same("the highest of the 4", x.poke(1, 0x99ABCDEFL), true);
        check.same("the lowest of the 4", x.poke(1, 0x99ABCDEEL), true);
        check.same("-1", x.poke(1, -1), true);
        check.same("4294967295", x.poke(1, 4294967295L), false);
        check.same("5 bytes", x.size(1), 5);
    }

    private static void large(Check check) {
        Client x = Client.with(Wire.FLAG, Wire.SMALL, Wire.LARGE, Wire.LARGE);
        x.poke(1, 1);
        x.poke(2, 7);
        x.poke(3, 0xFEDCBA9876543210L);
        check.bytes("type 1", x.send(Wire.read(1)), 0, 1, 1);
        check.bytes("type 6", x.send(Wire.read(2)), 0, 6, 7, 0, 0, 0);
        check.bytes("type 8", x.send(Wire.read(3)), 0, 8, 0x10, 0x32, 0x54, 0x76, 0x98, 0xBA, 0xDC, 0xFE);
        check.bytes("another stays", x.send(Wire.read(4)), Wire.valueAnswer(Wire.large(0)));
        for (long v : new long[] {1L << 56, 1L << 32, -1, Long.MIN_VALUE, Long.MAX_VALUE, 0}) {
            check.same("v " + v, x.poke(3, v), true);
            check.bytes("v " + v, x.send(Wire.read(3)), Wire.valueAnswer(Wire.large(v)));
        }
    }

    private static void answers(Check check) {
        for (int type : new int[] {Wire.FLAG, Wire.SMALL, Wire.LARGE}) {
            Client x = Client.with(type, type);
            check.same("0 at first", x.poke(1, 0), false);
            check.same("1", x.poke(1, 1), true);
            check.same("1 again", x.poke(1, 1), false);
            check.same("of another node", x.poke(2, 1), true);
            check.same("0", x.poke(1, 0), true);
            check.same("0 again", x.poke(1, 0), false);
            x.send(Wire.watch(1, 4, 1));
            check.same("watched", x.poke(1, 1), true);
            check.same("watched, the same", x.poke(1, 1), false);
            check.same("a notice", x.queue(0), 2);
            x.chunk(0, 0, 0, 0, 0);
            check.same("closed", x.isOpen(), false);
            check.same("while the channel is closed", x.poke(1, 0), true);
        }
        Client x = Client.with(Wire.SMALL);
        x.send(Wire.write(1, Wire.small(9)));
        check.same("what WRITE wrote", x.poke(1, 9), false);
    }

    private static void refused(Check check) {
        Client x = Client.with(Wire.ANY, Wire.TEXT);
        x.folder(0);
        x.send(Wire.write(1, Wire.small(4)));
        for (long v : new long[] {0, 1, 4, 5}) {
            check.same("ANY", x.poke(1, v), false);
            check.same("TEXT", x.poke(2, v), false);
            for (int node : new int[] {0, 3, 4, 15, 16, 17, 256, -1, Integer.MIN_VALUE, Integer.MAX_VALUE}) {
                check.same("node " + node, x.poke(node, v), false);
            }
        }
        check.bytes("ANY stays", x.send(Wire.read(1)), Wire.valueAnswer(Wire.small(4)));
        check.bytes("TEXT stays", x.send(Wire.read(2)), Wire.valueAnswer(Wire.noText()));
    }
}
