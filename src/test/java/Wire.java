import java.util.Arrays;

/** Writes numbers, names, values and messages as the document has them in bytes. */
final class Wire {
    static final int EMPTY = 0;
    static final int ANY = 0;
    static final int FLAG = 1;
    static final int SMALL = 6;
    static final int LARGE = 8;
    static final int TEXT = 12;
    static final int LIST = 152;

    private Wire() {
    }

    static int[] bytes(int... bytes) {
        return bytes;
    }

    static int[] join(int[]... parts) {
        int[] all = new int[0];
        for (int[] part : parts) {
            int start = all.length;
            all = Arrays.copyOf(all, start + part.length);
            System.arraycopy(part, 0, all, start, part.length);
        }
        return all;
    }

    static int[] number(long v, int count) {
        int[] row = new int[count];
        for (int i = 0; i < count; i++) {
            row[i] = (int) (v >>> (8 * i)) & 255;
        }
        return row;
    }

    static int[] empty() {
        return bytes(EMPTY);
    }

    static int[] flag(int b) {
        return bytes(FLAG, b);
    }

    static int[] small(int v) {
        return join(bytes(SMALL), number(v, 4));
    }

    static int[] large(long v) {
        return join(bytes(LARGE), number(v, 8));
    }

    static int[] noText() {
        return join(bytes(TEXT), number(-1, 4));
    }

    static int[] text(int... bytes) {
        return join(bytes(TEXT), number(bytes.length, 4), bytes);
    }

    static int[] list(int[]... values) {
        return join(bytes(LIST), number(values.length, 4), join(values));
    }

    static int[] name(int node) {
        return bytes(0, node);
    }

    static int[] longName(int space, int node) {
        return join(bytes(1, space), number(node, 2));
    }

    static int[] read(int node) {
        return join(bytes(1), name(node));
    }

    static int[] write(int node, int[] value) {
        return join(bytes(2), name(node), value);
    }

    static int[] browse(int node, int upward) {
        return join(bytes(3), name(node), bytes(upward));
    }

    static int[] watch(int node, int capacity, int order) {
        return join(bytes(4), name(node), bytes(capacity, order));
    }

    static int[] publish(int... acknowledged) {
        int[] message = bytes(5, acknowledged.length);
        for (int n : acknowledged) {
            message = join(message, number(n, 4));
        }
        return message;
    }

    static int[] again(int number) {
        return join(bytes(6), number(number, 4));
    }

    /** The answer 0 and a parcel, whose notices are written by notice(). */
    static int[] parcel(int number, int[]... notices) {
        return join(bytes(0), number(number, 4), bytes(notices.length), join(notices));
    }

    static int[] notice(int item, int[] value, int mark) {
        return join(bytes(item), value, bytes(mark));
    }

    /** The argument of chunk() that holds these bytes, the first one lowest. */
    static long pack(int... bytes) {
        long packed = 0;
        for (int i = 0; i < bytes.length; i++) {
            packed |= (long) bytes[i] << (8 * i);
        }
        return packed;
    }

    /** The answer 0 and a value. */
    static int[] valueAnswer(int[] value) {
        return join(bytes(0), value);
    }

    /** The answer 0 and the names of nodes. */
    static int[] namesAnswer(int... nodes) {
        int[] answer = bytes(0, nodes.length);
        for (int node : nodes) {
            answer = join(answer, name(node));
        }
        return answer;
    }
}
