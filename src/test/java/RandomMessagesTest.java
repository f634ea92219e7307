import java.util.ArrayList;
import java.util.Arrays;
import java.util.LinkedHashSet;
import java.util.List;
import java.util.Random;
import java.util.TreeMap;

/** Random messages, most of them a little wrong, read once more by a plain reader of rows. */
public final class RandomMessagesTest {
    private static final int RUNS = 60000;

    /** What a message should be read as. */
    private static final class Read {
        final TreeMap<Integer, Integer> faults = new TreeMap<>();
        final List<int[]> withdrawn = new ArrayList<>();
        final List<int[]> announced = new ArrayList<>();
        final List<Integer> carried = new ArrayList<>();
        final List<Integer> types = new ArrayList<>();
        Integer origin;
        Integer cost;
        List<Integer> way;
        List<Integer> marks = List.of();

        void fault(int kind, int place) {
            faults.putIfAbsent(kind, place);
        }
    }

    public static void main(String[] args) {
        Check check = new Check("RandomMessagesTest");
        Random random = new Random(1);
        DomainHouse house = new DomainHouse();
        for (int i = 0; i < RUNS; i++) {
            compare(check, house, random(random));
        }
        check.end();
    }

    private static int[] random(Random random) {
        Wire wire = new Wire();
        for (int i = random.nextInt(3); i > 0; i--) {
            wire.withdraw(random.nextInt(), random.nextInt(33));
        }
        for (int i = random.nextInt(3); i > 0; i--) {
            wire.announce(random.nextInt(), random.nextInt(33));
        }
        for (int i = random.nextInt(5); i > 0; i--) {
            attribute(random, wire);
        }
        if (random.nextBoolean()) {
            wire.origin(random.nextInt(3));
            wire.way(random.ints(random.nextInt(4)).toArray());
        }
        int[] bytes = wire.bytes();
        for (int i = random.nextInt(3) == 0 ? random.nextInt(3) : 0; i > 0; i--) {
            bytes[random.nextInt(bytes.length)] = random.nextInt(random.nextBoolean() ? 5 : 256);
        }
        return random.nextInt(6) == 0 ? Arrays.copyOf(bytes, random.nextInt(bytes.length + 1)) : bytes;
    }

    private static void attribute(Random random, Wire wire) {
        int odd = random.nextInt(8) == 0 ? random.nextInt(256) : random.nextInt(4) * 16;
        switch (random.nextInt(6)) {
            case 0:
                wire.attribute(64 ^ odd, 1, random.nextInt(4));
                break;
            case 1:
                int[] first = Wire.segment(1 + random.nextInt(2), random.ints(random.nextInt(12)).toArray());
                int[] second = Wire.segment(1 + random.nextInt(2), random.ints(random.nextInt(12)).toArray());
                wire.attribute(64 ^ odd, 2, random.nextBoolean() ? first : Wire.join(first, second));
                break;
            case 2:
                wire.attribute(128 ^ odd, 4, Wire.four(random.nextBoolean() ? random.nextInt() : random.nextInt(1000003)));
                break;
            case 3:
                int[] marks = {};
                for (int i = random.nextInt(14); i > 0; i--) {
                    marks = Wire.join(marks, Wire.four(random.nextInt(4) << 16 | random.nextInt(12)));
                }
                wire.attribute(192 ^ odd, 8, marks);
                break;
            default:
                wire.attribute(random.nextInt(256), random.nextInt(12), new int[random.nextInt(3)]);
                break;
        }
    }

    private static int number(int[] bytes, int from, int count) {
        int number = 0;
        for (int i = 0; i < count; i++) {
            number = number << 8 | bytes[from + i];
        }
        return number;
    }

    private static Read read(int[] bytes) {
        Read read = new Read();
        if (bytes.length < 2 || bytes.length < 2 + number(bytes, 0, 2)) {
            read.fault(1, 0);
            return read;
        }
        int a = 2 + number(bytes, 0, 2);
        prefixes(read, bytes, 2, a, read.withdrawn);
        if (bytes.length < a + 2 || bytes.length < a + 2 + number(bytes, a, 2)) {
            read.fault(1, a);
            return read;
        }
        int end = a + 2 + number(bytes, a, 2);
        attributes(read, bytes, a + 2, end);
        prefixes(read, bytes, end, bytes.length, read.announced);
        if (!read.announced.isEmpty() && (read.origin == null || read.way == null)) {
            read.fault(2, end);
        }
        if (read.faults.containsKey(2)) {
            read.withdrawn.addAll(read.announced);
            read.announced.clear();
        }
        return read;
    }

    private static void prefixes(Read read, int[] bytes, int from, int end, List<int[]> into) {
        int at = from;
        while (at < end) {
            int length = bytes[at];
            int size = length / 8 + (length % 8 == 0 ? 0 : 1);
            if (length > 32 || at + size >= end) {
                read.fault(1, at);
                return;
            }
            long address = 0;
            for (int bit = 0; bit < length; bit++) {
                long one = bytes[at + 1 + bit / 8] >> 7 - bit % 8 & 1;
                address |= one << 31 - bit;
            }
            into.add(new int[] {(int) address, length});
            at += 1 + size;
        }
    }

    private static void attributes(Read read, int[] bytes, int from, int end) {
        int at = from;
        while (at < end) {
            int wide = (bytes[at] & 16) == 0 ? 1 : 2;
            int body = at + 2 + wide;
            int behind = body > end ? end + 1 : body + number(bytes, at + 2, wide);
            if (behind > end) {
                read.fault(2, at);
                return;
            }
            int type = bytes[at + 1];
            if (read.types.contains(type)) {
                read.fault(3, at);
            } else {
                read.types.add(type);
                if (!take(read, bytes[at], type, Arrays.copyOfRange(bytes, body, behind))) {
                    read.fault(2, at);
                }
            }
            at = behind;
        }
    }

    private static boolean take(Read read, int flags, int type, int[] body) {
        int plain = flags & ~48;
        switch (type) {
            case 1:
                read.origin = plain == 64 && body.length == 1 && body[0] <= 2 ? (Integer) body[0] : null;
                return read.origin != null;
            case 2:
                read.way = plain == 64 ? way(body) : null;
                return read.way != null;
            case 4:
                if (plain != 128 || body.length != 4) {
                    return false;
                }
                read.cost = (int) Math.min(1000000L, number(body, 0, 4) & 0xFFFFFFFFL);
                return true;
            case 8:
                if (plain != 192 || body.length % 4 != 0) {
                    return false;
                }
                LinkedHashSet<Integer> marks = new LinkedHashSet<>();
                for (int i = 0; i < body.length; i += 4) {
                    marks.add(number(body, i + 2, 2));
                }
                read.marks = marks.stream().limit(8).toList();
                return true;
            default:
                if (flags >= 192) {
                    read.carried.add(type);
                }
                return flags >= 128;
        }
    }

    private static List<Integer> way(int[] body) {
        List<Integer> way = new ArrayList<>();
        int at = 0;
        while (at < body.length) {
            int count = at + 1 < body.length ? body[at + 1] : 0;
            if (count == 0 || body[at] < 1 || body[at] > 2 || at + 2 + 4 * count > body.length) {
                return null;
            }
            List<Integer> segment = new ArrayList<>();
            for (int i = 0; i < count; i++) {
                segment.add(number(body, at + 2 + 4 * i, 4));
            }
            if (body[at] == 1) {
                segment.sort(Integer::compareUnsigned);
            }
            way.addAll(segment);
            at += 2 + 4 * count;
        }
        return way.size() > 20 ? null : way;
    }

    private static void compare(Check check, DomainHouse house, int[] bytes) {
        String name = Arrays.toString(bytes) + " ";
        Read want = read(bytes);
        int kind = want.faults.isEmpty() ? 0 : want.faults.firstKey();
        check.due(name + "message", Check.message(house, bytes), kind);
        check.due(name + "place", house.part(0), kind == 0 ? Check.NONE : want.faults.get(kind));
        if (kind == 1) {
            check.due(name + "CLOSE", house.part(1), Check.NONE);
            return;
        }
        compareRow(check, house, name, 1, want.withdrawn.stream().map(one -> one[0]).toList(), 100);
        compareRow(check, house, name, 1, want.withdrawn.stream().map(one -> one[1]).toList(), 200);
        compareRow(check, house, name, 2, want.announced.stream().map(one -> one[0]).toList(), 300);
        compareRow(check, house, name, 2, want.announced.stream().map(one -> one[1]).toList(), 400);
        compareRow(check, house, name, 3, want.carried, 700);
        compareRow(check, house, name, 6, want.way == null ? List.of() : want.way, 500);
        compareRow(check, house, name, 7, want.marks, 600);
        check.due(name + "origin", house.part(4), want.origin == null ? 0 : want.origin);
        check.due(name + "cost", house.part(5), want.cost == null ? 0 : want.cost);
    }

    private static void compareRow(Check check, DomainHouse house, String name, int count, List<Integer> want, int from) {
        check.due(name + "count " + count, house.part(count), want.size());
        check.dueRow(name + from, i -> house.part(from + i), want.stream().limit(99).mapToInt(Integer::intValue).toArray());
    }
}
