/**
 * A server of nodes with values. Messages come in chunks and are answered in bytes; the items that
 * watch variables gather notices, which are published in parcels.
 */
public final class ChunkedNodes {
    public static final int REFUSED = -1;
    public static final int TAKEN = 0;
    public static final int ANSWERED = 1;
    public static final int CLOSED = 2;

    private static final int MORE = 0;
    private static final int LAST = 1;
    private static final int ABORT = 2;

    private static final int READ = 1;
    private static final int WRITE = 2;
    private static final int BROWSE = 3;
    private static final int WATCH = 4;
    private static final int PUBLISH = 5;
    private static final int AGAIN = 6;

    private static final int DONE = 0;
    private static final int MALFORMED = 1;
    private static final int NO_SERVICE = 2;
    private static final int NO_NODE = 3;
    private static final int NO_VARIABLE = 4;
    private static final int WRONG_KIND = 5;
    private static final int TOO_MANY_ITEMS = 6;
    private static final int NO_NOTICES = 7;
    private static final int NO_PARCEL = 8;

    private static final int EMPTY = 0;
    private static final int FLAG = 1;
    private static final int SMALL = 6;
    private static final int LARGE = 8;
    private static final int TEXT = 12;
    private static final int LIST = 152;
    private static final int ANY = EMPTY;
    private static final int FOLDER = -1;
    private static final int NOBODY = -1;

    private static final int MAX_NODES = 16;
    private static final int MAX_ITEMS = 6;
    private static final int MAX_CAPACITY = 4;
    private static final int MAX_PARCELS = 3;
    private static final int MAX_NOTICES = 3;
    private static final int MAX_NUMBERS = 4;
    private static final int MAX_CHUNKS = 12;
    private static final int MAX_DEPTH = 3;
    private static final int WRAP_FROM = 1000;
    private static final int WRAP_TO = 9;

    private static final int CHUNK_BYTES = 8;
    private static final int MESSAGE_BYTES = 64;
    // A value comes in a WRITE alone, behind the service and a name of 2 bytes at least.
    private static final int VALUE_BYTES = MESSAGE_BYTES - 3;
    private static final int PARCEL_BYTES = 5 + MAX_NOTICES * (VALUE_BYTES + 2);
    private static final int REPLY_BYTES = 1 + PARCEL_BYTES;

    private final Node[] nodes = new Node[MAX_NODES];
    private int nodeCount;
    private final Item[] items = new Item[MAX_ITEMS];
    private int itemCount;
    private final Shelf shelf = new Shelf();
    private final Channel channel = new Channel();
    private final Bytes reply = new Bytes(REPLY_BYTES);
    private int replyRequest;
    private final Bytes incoming = new Bytes(VALUE_BYTES);
    private final int[] acknowledged = new int[MAX_NUMBERS];

    public ChunkedNodes() {
        for (int i = 0; i < MAX_NODES; i++) {
            nodes[i] = new Node();
        }
        for (int i = 0; i < MAX_ITEMS; i++) {
            items[i] = new Item();
        }
        nodes[0].become(NOBODY, FOLDER);
        nodeCount = 1;
        replyRequest = REFUSED;
    }

    public void open() {
        channel.restart();
        itemCount = 0;
        shelf.restart();
        reply.clear();
        replyRequest = REFUSED;
    }

    public boolean isOpen() {
        return channel.live;
    }

    public int folder(int parent) {
        return addNode(parent, FOLDER);
    }

    public int variable(int parent, int type) {
        return isVariableType(type) ? addNode(parent, type) : REFUSED;
    }

    public boolean poke(int node, long v) {
        if (!isVariable(node)) {
            return false;
        }
        int type = nodes[node].type;
        incoming.clear();
        incoming.add(type);
        switch (type) {
            case FLAG:
                incoming.add(v != 0 ? 1 : 0);
                break;
            case SMALL:
                incoming.addNumber(v, 4);
                break;
            case LARGE:
                incoming.addNumber(v, 8);
                break;
            default:
                return false;
        }
        return changeValue(node);
    }

    public int chunk(int kind, int sequence, int request, long bytes, int count) {
        if (!channel.live || kind < MORE || kind > ABORT || sequence < 0 || request < 0
                || count < 0 || count > CHUNK_BYTES) {
            return REFUSED;
        }
        if (channel.mustClose(kind, sequence, request, count)) {
            channel.close();
            return CLOSED;
        }
        channel.take(kind, sequence, request, bytes, count);
        if (kind != LAST) {
            return TAKEN;
        }
        replyRequest = request;
        reply.clear();
        reply.add(DONE);
        // A service that is not done puts nothing behind the code.
        reply.set(0, serve(channel.message));
        return ANSWERED;
    }

    public int part() {
        return channel.partial ? channel.message.content.length : REFUSED;
    }

    public int answerLength() {
        return reply.length;
    }

    public int answer(int i) {
        return i >= 0 && i < reply.length ? reply.at(i) : REFUSED;
    }

    public int request() {
        return replyRequest;
    }

    public int queue(int i) {
        return i >= 0 && i < itemCount ? items[i].waiting : REFUSED;
    }

    public int parcels() {
        return shelf.kept;
    }

    public int parcel(int k) {
        return k >= 0 && k < shelf.kept ? shelf.rows[k].number : REFUSED;
    }

    public int size(int node) {
        return isVariable(node) ? nodes[node].value.length : REFUSED;
    }

    private static boolean isVariableType(int type) {
        return type == ANY || type == FLAG || type == SMALL || type == LARGE || type == TEXT;
    }

    private boolean isNode(int node) {
        return node >= 0 && node < nodeCount;
    }

    private boolean isVariable(int node) {
        return isNode(node) && nodes[node].type != FOLDER;
    }

    private int addNode(int parent, int type) {
        if (!isNode(parent) || isVariable(parent) || nodeCount == MAX_NODES) {
            return REFUSED;
        }
        nodes[nodeCount].become(parent, type);
        nodeCount++;
        return nodeCount - 1;
    }

    /** The value in incoming becomes the variable's; answers whether it was not the same before. */
    private boolean changeValue(int node) {
        Bytes value = nodes[node].value;
        if (value.isSameAs(incoming)) {
            return false;
        }
        value.clear();
        value.append(incoming);
        for (int i = 0; i < itemCount; i++) {
            if (items[i].node == node) {
                items[i].addNotice(value);
            }
        }
        return true;
    }

    /** Does what the message asks, adds what belongs to the answer, and answers its code. */
    private int serve(Message message) {
        message.startReading();
        if (message.left() == 0) {
            return MALFORMED;
        }
        switch (message.readByte()) {
            case READ:
                return serveRead(message);
            case WRITE:
                return serveWrite(message);
            case BROWSE:
                return serveBrowse(message);
            case WATCH:
                return serveWatch(message);
            case PUBLISH:
                return servePublish(message);
            case AGAIN:
                return serveAgain(message);
            default:
                return NO_SERVICE;
        }
    }

    /** The code against a name that is not a variable's, DONE if it is one's. */
    private int checkVariable(int node) {
        if (!isNode(node)) {
            return NO_NODE;
        }
        return isVariable(node) ? DONE : NO_VARIABLE;
    }

    private int serveRead(Message message) {
        int node = message.readName();
        if (!message.isReadWhole()) {
            return MALFORMED;
        }
        int code = checkVariable(node);
        if (code == DONE) {
            reply.append(nodes[node].value);
        }
        return code;
    }

    private int serveWrite(Message message) {
        int node = message.readName();
        incoming.clear();
        message.readValue(incoming, 0);
        if (!message.isReadWhole()) {
            return MALFORMED;
        }
        int code = checkVariable(node);
        if (code != DONE) {
            return code;
        }
        int type = nodes[node].type;
        if (type != ANY && type != incoming.at(0)) {
            return WRONG_KIND;
        }
        changeValue(node);
        return DONE;
    }

    private int serveBrowse(Message message) {
        int node = message.readName();
        int upward = message.readByte();
        if (!message.isReadWhole() || upward > 1) {
            return MALFORMED;
        }
        if (!isNode(node)) {
            return NO_NODE;
        }
        reply.add(0);
        if (upward == 1) {
            replyParent(node);
        } else {
            replyChildren(node);
        }
        return DONE;
    }

    private void replyParent(int node) {
        if (nodes[node].parent != NOBODY) {
            replyName(nodes[node].parent);
        }
    }

    private void replyChildren(int node) {
        for (int i = 0; i < nodeCount; i++) {
            if (nodes[i].parent == node) {
                replyName(i);
            }
        }
    }

    /** Adds a name in the shorter way, and counts it in the byte that stands before the names. */
    private void replyName(int node) {
        reply.set(1, reply.at(1) + 1);
        reply.add(0);
        reply.add(node);
    }

    private int serveWatch(Message message) {
        int node = message.readName();
        int capacity = message.readByte();
        int order = message.readByte();
        if (!message.isReadWhole()) {
            return MALFORMED;
        }
        int code = checkVariable(node);
        if (code != DONE) {
            return code;
        }
        if (itemCount == MAX_ITEMS) {
            return TOO_MANY_ITEMS;
        }
        items[itemCount].watch(node, Math.max(1, Math.min(capacity, MAX_CAPACITY)), order != 0);
        items[itemCount].addNotice(nodes[node].value);
        reply.add(itemCount);
        itemCount++;
        return DONE;
    }

    private int servePublish(Message message) {
        int count = message.readByte();
        if (count > MAX_NUMBERS) {
            return MALFORMED;
        }
        for (int i = 0; i < count; i++) {
            acknowledged[i] = message.readNumber();
        }
        if (!message.isReadWhole()) {
            return MALFORMED;
        }
        for (int i = 0; i < count; i++) {
            shelf.drop(acknowledged[i]);
        }
        int notices = Math.min(countNotices(), MAX_NOTICES);
        if (notices == 0) {
            return NO_NOTICES;
        }
        Bytes content = shelf.keepAnother().content;
        content.add(notices);
        moveNotices(content, notices);
        reply.append(content);
        return DONE;
    }

    private int countNotices() {
        int sum = 0;
        for (int i = 0; i < itemCount; i++) {
            sum += items[i].waiting;
        }
        return sum;
    }

    private void moveNotices(Bytes content, int notices) {
        int left = notices;
        for (int i = 0; i < itemCount; i++) {
            for (; left > 0 && items[i].waiting > 0; left--) {
                Notice first = items[i].removeFirst();
                content.add(i);
                content.append(first.value);
                content.add(first.mark);
            }
        }
    }

    private int serveAgain(Message message) {
        int number = message.readNumber();
        if (!message.isReadWhole()) {
            return MALFORMED;
        }
        int k = shelf.find(number);
        if (k < 0) {
            return NO_PARCEL;
        }
        reply.append(shelf.rows[k].content);
        return DONE;
    }

    /** A row of bytes up to a length that is told when it is made. */
    private static final class Bytes {
        private final byte[] cells;
        private int length;

        Bytes(int limit) {
            cells = new byte[limit];
        }

        int at(int i) {
            return i >= 0 && i < length ? cells[i] & 255 : 0;
        }

        void clear() {
            length = 0;
        }

        void set(int i, int b) {
            if (i >= 0 && i < length) {
                cells[i] = (byte) b;
            }
        }

        void add(int b) {
            if (length < cells.length) {
                cells[length] = (byte) b;
                length++;
            }
        }

        void addNumber(long v, int count) {
            for (int i = 0; i < count; i++) {
                add((int) (v >> (8 * i)));
            }
        }

        void append(Bytes other) {
            int count = Math.min(other.length, cells.length - length);
            System.arraycopy(other.cells, 0, cells, length, count);
            length += count;
        }

        boolean isSameAs(Bytes other) {
            if (length != other.length) {
                return false;
            }
            for (int i = 0; i < length; i++) {
                if (cells[i] != other.cells[i]) {
                    return false;
                }
            }
            return true;
        }
    }

    /** The bytes of a message, and how far they have been read. */
    private static final class Message {
        private final Bytes content = new Bytes(MESSAGE_BYTES);
        private int position;
        private boolean wellFormed;

        void startReading() {
            position = 0;
            wellFormed = true;
        }

        int left() {
            return content.length - position;
        }

        boolean isReadWhole() {
            return wellFormed && left() == 0;
        }

        int readByte() {
            if (position >= content.length) {
                wellFormed = false;
                return 0;
            }
            position++;
            return content.cells[position - 1] & 255;
        }

        int readNumber() {
            int low = readByte() | readByte() << 8;
            return low | readByte() << 16 | readByte() << 24;
        }

        /** The number behind a name, or NOBODY if it can be no node's. */
        int readName() {
            int form = readByte();
            if (form == 0) {
                return readByte();
            }
            if (form != 1) {
                wellFormed = false;
                return NOBODY;
            }
            int space = readByte();
            int number = readByte() | readByte() << 8;
            return space == 0 ? number : NOBODY;
        }

        /** Reads a value that stands in as many lists as told, and adds it as it is written. */
        private void readValue(Bytes into, int lists) {
            int kind = readByte();
            into.add(kind);
            switch (kind) {
                case EMPTY:
                    break;
                case FLAG:
                    into.add(readByte() == 0 ? 0 : 1);
                    break;
                case SMALL:
                    moveBytes(into, 4);
                    break;
                case LARGE:
                    moveBytes(into, 8);
                    break;
                case TEXT:
                    readText(into);
                    break;
                case LIST:
                    readList(into, lists + 1);
                    break;
                default:
                    wellFormed = false;
                    break;
            }
        }

        private void moveBytes(Bytes into, int count) {
            for (int i = 0; i < count; i++) {
                into.add(readByte());
            }
        }

        private void readText(Bytes into) {
            int count = readNumber();
            into.addNumber(count, 4);
            if (count < -1 || count > left()) {
                wellFormed = false;
                return;
            }
            moveBytes(into, count);
        }

        private void readList(Bytes into, int lists) {
            int count = readNumber();
            into.addNumber(count, 4);
            // Each value has one byte at least, so a longer list cannot be in the message.
            if (lists > MAX_DEPTH || count < 0 || count > left()) {
                wellFormed = false;
                return;
            }
            for (int i = 0; i < count && wellFormed; i++) {
                readValue(into, lists);
            }
        }
    }

    /** The order of chunks, and the message that they make. */
    private static final class Channel {
        private final Message message = new Message();
        private boolean live = true;
        private boolean begun;
        private int latestSequence;
        private boolean partial;
        private int partRequest;
        private int partChunks;

        void restart() {
            live = true;
            begun = false;
            partial = false;
        }

        void close() {
            live = false;
            partial = false;
        }

        boolean mustClose(int kind, int sequence, int request, int count) {
            if (begun && !isNext(sequence)) {
                return true;
            }
            if (partial && request != partRequest) {
                return true;
            }
            return kind != ABORT && partial
                    && (message.content.length + count > MESSAGE_BYTES || partChunks == MAX_CHUNKS);
        }

        private boolean isNext(int sequence) {
            // No sequence number is below 0, so none is next to the greatest int by wrapping.
            return sequence == latestSequence + 1
                    || latestSequence >= WRAP_FROM && sequence >= 0 && sequence <= WRAP_TO;
        }

        void take(int kind, int sequence, int request, long bytes, int count) {
            begun = true;
            latestSequence = sequence;
            if (kind == ABORT) {
                partial = false;
                return;
            }
            if (!partial) {
                message.content.clear();
                partRequest = request;
                partChunks = 0;
            }
            message.content.addNumber(bytes, count);
            partChunks++;
            partial = kind == MORE;
        }
    }

    private static final class Node {
        private int parent;
        private int type;
        private final Bytes value = new Bytes(VALUE_BYTES);

        void become(int parent, int type) {
            this.parent = parent;
            this.type = type;
            if (type == FOLDER) {
                return;
            }
            value.add(type);
            if (type == FLAG) {
                value.add(0);
            } else if (type == SMALL) {
                value.addNumber(0, 4);
            } else if (type == LARGE) {
                value.addNumber(0, 8);
            } else if (type == TEXT) {
                value.addNumber(-1, 4);
            }
        }
    }

    private static final class Notice {
        private final Bytes value = new Bytes(VALUE_BYTES);
        private int mark;
    }

    /** Watches a variable; its notices stand in the rows 0 .. waiting - 1, the oldest first. */
    private static final class Item {
        private final Notice[] rows = new Notice[MAX_CAPACITY];
        private int node;
        private int capacity = 1;
        private boolean oldestGo;
        private int waiting;

        Item() {
            for (int i = 0; i < MAX_CAPACITY; i++) {
                rows[i] = new Notice();
            }
        }

        void watch(int node, int capacity, boolean oldestGo) {
            this.node = node;
            this.capacity = capacity;
            this.oldestGo = oldestGo;
            waiting = 0;
        }

        void addNotice(Bytes value) {
            boolean marks = waiting == capacity && capacity > 1;
            if (waiting == capacity) {
                discard();
            }
            Notice last = rows[waiting];
            last.value.clear();
            last.value.append(value);
            last.mark = 0;
            waiting++;
            if (marks) {
                rows[oldestGo ? 0 : waiting - 1].mark = 1;
            }
        }

        private void discard() {
            if (oldestGo) {
                removeFirst();
            } else {
                waiting--;
            }
        }

        /** The notice that goes stays as it is until the next one is added. */
        Notice removeFirst() {
            Notice first = rows[0];
            for (int i = 1; i < waiting; i++) {
                rows[i - 1] = rows[i];
            }
            waiting--;
            rows[waiting] = first;
            return first;
        }
    }

    private static final class Parcel {
        private int number;
        private final Bytes content = new Bytes(PARCEL_BYTES);
    }

    /** The parcels that are kept stand in the rows 0 .. kept - 1, the oldest first. */
    private static final class Shelf {
        private final Parcel[] rows = new Parcel[MAX_PARCELS];
        private int kept;
        private int latestNumber;

        Shelf() {
            for (int i = 0; i < MAX_PARCELS; i++) {
                rows[i] = new Parcel();
            }
        }

        void restart() {
            kept = 0;
            latestNumber = 0;
        }

        int find(int number) {
            for (int k = 0; k < kept; k++) {
                if (rows[k].number == number) {
                    return k;
                }
            }
            return -1;
        }

        void drop(int number) {
            int k = find(number);
            if (k >= 0) {
                removeAt(k);
            }
        }

        private void removeAt(int k) {
            Parcel gone = rows[k];
            for (int i = k + 1; i < kept; i++) {
                rows[i - 1] = rows[i];
            }
            kept--;
            rows[kept] = gone;
        }

        /** Keeps a new parcel, which has its number and nothing behind it yet. */
        Parcel keepAnother() {
            if (kept == MAX_PARCELS) {
                removeAt(0);
            }
            latestNumber++;
            Parcel parcel = rows[kept];
            parcel.number = latestNumber;
            parcel.content.clear();
            parcel.content.addNumber(latestNumber, 4);
            kept++;
            return parcel;
        }
    }
}
