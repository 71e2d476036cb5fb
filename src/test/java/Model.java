import java.util.ArrayList;
import java.util.Arrays;
import java.util.LinkedHashMap;
import java.util.List;
import java.util.Map;

/** The document once more, with the Java library and without care for room: what the class is held against. */
final class Model {
    private static final class Fault extends RuntimeException {
        private static final long serialVersionUID = 1L;
        private final int code;

        Fault(int code) {
            super(null, null, false, false);
            this.code = code;
        }
    }

    private record Notice(List<Integer> value, int mark) {
    }

    private record Item(int node, int capacity, boolean oldest, List<Notice> notices) {
    }

    private final List<Integer> parents = new ArrayList<>(List.of(-1));
    private final List<Integer> types = new ArrayList<>(List.of(-1));
    private final List<List<Integer>> values = new ArrayList<>(List.of(List.of()));
    private boolean open;
    private Integer latest;
    private List<Integer> part;
    private int partRequest;
    private int partChunks;
    private List<Item> items;
    private Map<Integer, List<Integer>> parcels;
    private int published;
    private List<Integer> answer;
    private int answered;
    private List<Integer> input;

    Model() {
        open();
    }

    void open() {
        open = true;
        latest = null;
        part = null;
        items = new ArrayList<>();
        parcels = new LinkedHashMap<>();
        published = 0;
        answer = List.of();
        answered = -1;
    }

    boolean isOpen() {
        return open;
    }

    int folder(int parent) {
        return node(parent, -1, List.of());
    }

    int variable(int parent, int type) {
        return switch (type) {
            case 0 -> node(parent, 0, List.of(0));
            case 1 -> node(parent, 1, List.of(1, 0));
            case 6 -> node(parent, 6, List.of(6, 0, 0, 0, 0));
            case 8 -> node(parent, 8, List.of(8, 0, 0, 0, 0, 0, 0, 0, 0));
            case 12 -> node(parent, 12, List.of(12, 255, 255, 255, 255));
            default -> -1;
        };
    }

    private int node(int parent, int type, List<Integer> value) {
        if (parent < 0 || parent >= types.size() || types.get(parent) != -1 || types.size() >= 16) {
            return -1;
        }
        parents.add(parent);
        types.add(type);
        values.add(value);
        return types.size() - 1;
    }

    boolean poke(int node, long v) {
        if (node < 0 || node >= types.size()) {
            return false;
        }
        return switch (types.get(node)) {
            case 1 -> change(node, List.of(1, v == 0 ? 0 : 1));
            case 6 -> change(node, listOf(Wire.small((int) v)));
            case 8 -> change(node, listOf(Wire.large(v)));
            default -> false;
        };
    }

    private static List<Integer> listOf(int[] bytes) {
        return Arrays.stream(bytes).boxed().toList();
    }

    private boolean change(int node, List<Integer> value) {
        if (values.get(node).equals(value)) {
            return false;
        }
        values.set(node, value);
        for (Item item : items) {
            if (item.node == node) {
                tell(item, value);
            }
        }
        return true;
    }

    private static void tell(Item item, List<Integer> value) {
        List<Notice> queue = item.notices;
        boolean full = queue.size() == item.capacity;
        int mark = item.capacity == 1 ? 0 : 1;
        if (!full) {
            queue.add(new Notice(value, 0));
        } else if (item.oldest) {
            queue.remove(0);
            queue.add(new Notice(value, 0));
            queue.set(0, new Notice(queue.get(0).value, mark));
        } else {
            queue.set(queue.size() - 1, new Notice(value, mark));
        }
    }

    int chunk(int kind, int sequence, int request, long bytes, int count) {
        if (!open || kind < 0 || kind > 2 || sequence < 0 || request < 0 || count < 0 || count > 8) {
            return -1;
        }
        boolean inOrder = latest == null || sequence == (long) latest + 1 || latest >= 1000 && sequence < 10;
        boolean itsRequest = part == null || request == partRequest;
        int length = (part == null ? 0 : part.size()) + count;
        int chunks = (part == null ? 0 : partChunks) + 1;
        if (!inOrder || !itsRequest || kind != 2 && (length > 64 || chunks > 12)) {
            open = false;
            part = null;
            return 2;
        }
        latest = sequence;
        if (kind == 2) {
            part = null;
            return 0;
        }
        List<Integer> message = part == null ? new ArrayList<>() : part;
        for (int i = 0; i < count; i++) {
            message.add((int) (bytes >>> 8 * i & 255));
        }
        part = kind == 0 ? message : null;
        partRequest = request;
        partChunks = chunks;
        if (kind == 0) {
            return 0;
        }
        answered = request;
        answer = answerTo(message);
        return 1;
    }

    private List<Integer> answerTo(List<Integer> message) {
        input = new ArrayList<>(message);
        List<Integer> out = new ArrayList<>(List.of(0));
        try {
            int service = next();
            switch (service) {
                case 1 -> read(out);
                case 2 -> write();
                case 3 -> browse(out);
                case 4 -> watch(out);
                case 5 -> publish(out);
                case 6 -> again(out);
                default -> throw new Fault(2);
            }
            return out;
        } catch (Fault fault) {
            return List.of(fault.code);
        }
    }

    private static void need(boolean holds, int code) {
        if (!holds) {
            throw new Fault(code);
        }
    }

    private int next() {
        need(!input.isEmpty(), 1);
        return input.remove(0);
    }

    private List<Integer> next(int count) {
        need(count >= 0 && count <= input.size(), 1);
        List<Integer> head = new ArrayList<>(input.subList(0, count));
        input = new ArrayList<>(input.subList(count, input.size()));
        return head;
    }

    private static int numberOf(List<Integer> bytes) {
        int n = 0;
        for (int i = bytes.size() - 1; i >= 0; i--) {
            n = n << 8 | bytes.get(i);
        }
        return n;
    }

    private void end() {
        need(input.isEmpty(), 1);
    }

    private int name() {
        int form = next();
        need(form < 2, 1);
        int space = form == 0 ? 0 : next();
        int number = numberOf(next(form == 0 ? 1 : 2));
        return space != 0 || number >= types.size() ? -1 : number;
    }

    private List<Integer> value(int deepest) {
        int kind = next();
        List<Integer> out = new ArrayList<>(List.of(kind));
        switch (kind) {
            case 0 -> { }
            case 1 -> out.add(Math.min(1, next()));
            case 6 -> out.addAll(next(4));
            case 8 -> out.addAll(next(8));
            case 12 -> {
                List<Integer> length = next(4);
                out.addAll(length);
                out.addAll(next(numberOf(length) == -1 ? 0 : numberOf(length)));
            }
            case 152 -> {
                need(deepest > 0, 1);
                List<Integer> length = next(4);
                out.addAll(length);
                need(numberOf(length) >= 0, 1);
                for (int i = numberOf(length); i > 0; i--) {
                    out.addAll(value(deepest - 1));
                }
            }
            default -> throw new Fault(1);
        }
        return out;
    }

    private void needVariable(int node) {
        need(node >= 0, 3);
        need(types.get(node) >= 0, 4);
    }

    private void read(List<Integer> out) {
        int node = name();
        end();
        needVariable(node);
        out.addAll(values.get(node));
    }

    private void write() {
        int node = name();
        List<Integer> value = value(3);
        end();
        needVariable(node);
        need(types.get(node) == 0 || types.get(node).equals(value.get(0)), 5);
        change(node, value);
    }

    private void browse(List<Integer> out) {
        int node = name();
        int way = next();
        need(way < 2, 1);
        end();
        need(node >= 0, 3);
        List<Integer> found = new ArrayList<>();
        for (int i = 0; i < parents.size(); i++) {
            if (way == 0 ? parents.get(i) == node : parents.get(node) == i) {
                found.addAll(List.of(0, i));
            }
        }
        out.add(found.size() / 2);
        out.addAll(found);
    }

    private void watch(List<Integer> out) {
        int node = name();
        int capacity = next();
        int order = next();
        end();
        needVariable(node);
        need(items.size() < 6, 6);
        Item item = new Item(node, capacity == 0 ? 1 : capacity > 4 ? 4 : capacity, order != 0, new ArrayList<>());
        item.notices.add(new Notice(values.get(node), 0));
        out.add(items.size());
        items.add(item);
    }

    private void publish(List<Integer> out) {
        int count = next();
        need(count < 5, 1);
        List<Integer> numbers = new ArrayList<>();
        for (int i = 0; i < count; i++) {
            numbers.add(numberOf(next(4)));
        }
        end();
        parcels.keySet().removeAll(numbers);
        List<Integer> notices = new ArrayList<>();
        int moved = 0;
        for (int i = 0; i < items.size(); i++) {
            List<Notice> queue = items.get(i).notices;
            while (moved < 3 && !queue.isEmpty()) {
                Notice notice = queue.remove(0);
                notices.add(i);
                notices.addAll(notice.value);
                notices.add(notice.mark);
                moved++;
            }
        }
        need(moved > 0, 7);
        published++;
        List<Integer> parcel = new ArrayList<>(listOf(Wire.number(published, 4)));
        parcel.add(moved);
        parcel.addAll(notices);
        if (parcels.size() == 3) {
            parcels.remove(parcels.keySet().iterator().next());
        }
        parcels.put(published, parcel);
        out.addAll(parcel);
    }

    private void again(List<Integer> out) {
        int number = numberOf(next(4));
        end();
        need(parcels.containsKey(number), 8);
        out.addAll(parcels.get(number));
    }

    int part() {
        return part == null ? -1 : part.size();
    }

    int answerLength() {
        return answer.size();
    }

    int answer(int i) {
        return i < 0 || i >= answer.size() ? -1 : answer.get(i);
    }

    int request() {
        return answered;
    }

    int queue(int i) {
        return i < 0 || i >= items.size() ? -1 : items.get(i).notices.size();
    }

    int parcels() {
        return parcels.size();
    }

    int parcel(int k) {
        return k < 0 || k >= parcels.size() ? -1 : new ArrayList<>(parcels.keySet()).get(k);
    }

    int size(int node) {
        return node < 0 || node >= types.size() || types.get(node) < 0 ? -1 : values.get(node).size();
    }
}
