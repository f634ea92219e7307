import java.util.ArrayList;
import java.util.List;

/** Builds the bytes of messages for the tests. */
final class Wire {
    private final List<Integer> withdrawn = new ArrayList<>();
    private final List<Integer> attributes = new ArrayList<>();
    private final List<Integer> announced = new ArrayList<>();

    Wire withdraw(int address, int length) {
        addPrefix(withdrawn, address, length);
        return this;
    }

    Wire announce(int address, int length) {
        addPrefix(announced, address, length);
        return this;
    }

    Wire rawWithdrawn(int... bytes) {
        add(withdrawn, bytes);
        return this;
    }

    Wire rawAnnounced(int... bytes) {
        add(announced, bytes);
        return this;
    }

    Wire raw(int... bytes) {
        add(attributes, bytes);
        return this;
    }

    Wire attribute(int flags, int type, int... body) {
        if ((flags & 16) != 0) {
            raw(flags, type, body.length >> 8, body.length & 255);
        } else {
            raw(flags, type, body.length);
        }
        return raw(body);
    }

    Wire origin(int origin) {
        return attribute(64, 1, origin);
    }

    Wire way(int... numbers) {
        return attribute(64, 2, numbers.length == 0 ? new int[0] : segment(2, numbers));
    }

    Wire cost(int cost) {
        return attribute(128, 4, four(cost));
    }

    Wire marks(int... marks) {
        List<Integer> body = new ArrayList<>();
        for (int mark : marks) {
            add(body, four(mark));
        }
        return attribute(192, 8, row(body));
    }

    static int[] segment(int kind, int... numbers) {
        List<Integer> body = new ArrayList<>();
        add(body, kind, numbers.length);
        for (int number : numbers) {
            add(body, four(number));
        }
        return row(body);
    }

    static int[] four(int number) {
        return new int[] {number >>> 24, number >>> 16 & 255, number >>> 8 & 255, number & 255};
    }

    static int[] join(int[] one, int... other) {
        List<Integer> both = new ArrayList<>();
        add(both, one);
        add(both, other);
        return row(both);
    }

    int[] bytes() {
        List<Integer> all = new ArrayList<>();
        add(all, withdrawn.size() >> 8, withdrawn.size() & 255);
        all.addAll(withdrawn);
        add(all, attributes.size() >> 8, attributes.size() & 255);
        all.addAll(attributes);
        all.addAll(announced);
        return row(all);
    }

    /** A route is read from a message and heard: how many of its prefixes were known. */
    static int hear(DomainHouse house, int tie, int side, Wire wire) {
        Check.message(house, wire.bytes());
        return house.hear(tie, side);
    }

    private static void addPrefix(List<Integer> row, int address, int length) {
        row.add(length);
        for (int i = 0; i < (length + 7) / 8; i++) {
            row.add(address >>> 24 - 8 * i & 255);
        }
    }

    private static void add(List<Integer> row, int... bytes) {
        for (int one : bytes) {
            row.add(one);
        }
    }

    private static int[] row(List<Integer> list) {
        return list.stream().mapToInt(Integer::intValue).toArray();
    }
}
