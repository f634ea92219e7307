/** Promises 32 to 36: message, part, hear, write, octet. */
public final class MessageTest {
    private static final int TEN = 10 << 24;
    private static final int CLOSE = 1;
    private static final int WITHDRAW = 2;
    private static final int DROP = 3;

    public static void main(String[] args) {
        Check check = new Check("MessageTest");
        closeFaults(check);
        plain(check);
        prefixesOfAllLengths(check);
        withdrawFaults(check);
        wayFaults(check);
        missingAttributes(check);
        dropFaults(check);
        whichKindIsTold(check);
        numbersTaken(check);
        carried(check);
        manyPrefixes(check);
        hear(check);
        hearInTime(check);
        write(check);
        writtenIsRead(check);
        check.end();
    }

    private static Wire good() {
        return new Wire().origin(0).way(5);
    }

    /** The kind and the place of the fault that are told. */
    private static DomainHouse told(Check check, String name, int kind, int place, int... bytes) {
        DomainHouse house = new DomainHouse();
        check.due(name, Check.message(house, bytes), kind);
        check.due("place of " + name, house.part(0), place);
        check.due("tape behind " + name, house.count(6), 0);
        return house;
    }

    private static void closeFaults(Check check) {
        told(check, "nothing", CLOSE, 0);
        told(check, "half a W", CLOSE, 0, 0);
        told(check, "W too great", CLOSE, 0, 0, 3, 8, 10);
        told(check, "no A", CLOSE, 2, 0, 0);
        told(check, "half an A", CLOSE, 4, 0, 2, 8, 10, 0);
        told(check, "A too great", CLOSE, 2, 0, 0, 0, 5, 64, 1, 1, 0);
        told(check, "length 33", CLOSE, 2, 0, 1, 33, 0, 0);
        told(check, "bytes not all in WITHDRAWN", CLOSE, 4, 0, 3, 8, 10, 16, 0, 0);
        told(check, "ahead of A's own fault", CLOSE, 2, 0, 1, 40);
        int[] bytes = good().announce(TEN, 8).rawAnnounced(9, 1).bytes();
        told(check, "bytes not all in ANNOUNCED", CLOSE, bytes.length - 2, bytes);
        DomainHouse house = told(check, "length 255", CLOSE, 5, 0, 1, 0, 0, 0, 255);
        int[] parts = {1, 2, 3, 4, 5, 6, 7, 100, 200, 300, 400, 500, 600, 700};
        for (int what : parts) {
            check.due("CLOSE: part " + what, house.part(what), Check.NONE);
        }
        told(check, "the least message", 0, Check.NONE, 0, 0, 0, 0);
    }

    private static void plain(Check check) {
        Wire wire = new Wire().withdraw(TEN, 8).withdraw(0, 0).origin(2).way(7, -1).cost(55).marks(9, 70000, 3);
        DomainHouse house = told(check, "plain", 0, Check.NONE, wire.announce(11 << 24, 16).bytes());
        int[] want = {Check.NONE, 2, 1, 0, 2, 55, 2, 3, Check.NONE};
        for (int i = 0; i < want.length; i++) {
            check.due("part " + i, house.part(i), want[i]);
        }
        check.dueRow("withdrawn", i -> house.part(100 + i), TEN, 0);
        check.dueRow("their lengths", i -> house.part(200 + i), 8, 0);
        check.dueRow("announced", i -> house.part(300 + i), 11 << 24);
        check.dueRow("its length", i -> house.part(400 + i), 16);
        check.dueRow("way", i -> house.part(500 + i), 7, -1);
        check.dueRow("marks as they came", i -> house.part(600 + i), 9, 4464, 3);
        check.due("carried", house.part(700), Check.NONE);
        int[] none = {-1, 8, 99, 800, Integer.MAX_VALUE, Integer.MIN_VALUE};
        for (int what : none) {
            check.due("part " + what, house.part(what), Check.NONE);
        }
        Check.message(house, 0, 0, 0, 0);
        check.due("the latest only", house.part(4), 0);
        check.due("the latest only", house.part(1), 0);
    }

    /** Bits behind the length count for nothing. */
    private static void prefixesOfAllLengths(Check check) {
        for (int length = 0; length <= 32; length++) {
            DomainHouse house = new DomainHouse();
            Check.message(house, new Wire().withdraw(-1, length).withdraw(TEN, 8).bytes());
            check.due("address of " + length, house.part(100), length == 0 ? 0 : -1 << 32 - length);
            check.due("length of " + length, house.part(200), length);
            check.due("next behind " + length, house.part(101), TEN);
        }
    }

    private static void attribute(Check check, String name, boolean right, int flags, int type, int... body) {
        int[] bytes = new Wire().attribute(flags, type, body).bytes();
        told(check, name, right ? 0 : WITHDRAW, right ? Check.NONE : 4, bytes);
    }

    private static void withdrawFaults(Check check) {
        attribute(check, "origin", true, 64, 1, 2);
        attribute(check, "origin with 16 and 32", true, 64 | 48, 1, 2);
        attribute(check, "origin 3", false, 64, 1, 3);
        attribute(check, "origin of two bytes", false, 64, 1, 0, 0);
        attribute(check, "origin without", false, 64, 1);
        attribute(check, "origin with 128", false, 192, 1, 0);
        attribute(check, "origin without 64", false, 0, 1, 0);
        attribute(check, "origin with 1", false, 65, 1, 0);
        attribute(check, "cost", true, 128, 4, 0, 0, 0, 0);
        attribute(check, "cost of three", false, 128, 4, 0, 0, 0);
        attribute(check, "cost with 64", false, 192, 4, 0, 0, 0, 0);
        attribute(check, "marks", true, 192, 8, 0, 0, 0, 0);
        attribute(check, "no marks", true, 192, 8);
        attribute(check, "marks of five", false, 192, 8, 0, 0, 0, 0, 0);
        attribute(check, "marks without 64", false, 128, 8, 0, 0, 0, 0);
        attribute(check, "another type", true, 128, 3);
        attribute(check, "another type, all flags", true, 255, 0, 1, 2);
        attribute(check, "another type without 128", false, 64, 3);
        attribute(check, "another type without 128", false, 127, 255, 1, 2, 3);
        told(check, "flags only", WITHDRAW, 4, 0, 0, 0, 1, 128);
        told(check, "no size", WITHDRAW, 4, 0, 0, 0, 2, 128, 9);
        told(check, "half a size", WITHDRAW, 4, 0, 0, 0, 3, 144, 9, 0);
        told(check, "not all there", WITHDRAW, 4, 0, 0, 0, 4, 128, 9, 2, 0);
        told(check, "behind a right one", WITHDRAW, 8, 0, 0, 0, 6, 64, 1, 1, 0, 144, 9);
        int[] longOne = new Wire().attribute(144, 9, new int[300]).origin(7).bytes();
        told(check, "behind a long one", WITHDRAW, 308, longOne);
        DomainHouse house = told(check, "nothing behind is looked at", WITHDRAW, 4, 0, 0, 0, 6, 192, 9, 9, 192, 8, 0);
        check.due("not carried", house.part(3), 0);
    }

    private static void wayFaults(Check check) {
        attribute(check, "no segments", true, 64, 2);
        attribute(check, "segment 1", true, 64, 2, Wire.segment(1, 4));
        attribute(check, "segment 2", true, 64, 2, Wire.segment(2, 4));
        attribute(check, "segment 0", false, 64, 2, Wire.segment(0, 4));
        attribute(check, "segment 3", false, 64, 2, Wire.segment(3, 4));
        attribute(check, "no numbers in it", false, 64, 2, 2, 0);
        attribute(check, "half a segment", false, 64, 2, 2);
        attribute(check, "numbers not all there", false, 64, 2, 2, 1, 0, 0, 0);
        attribute(check, "one byte more", false, 64, 2, Wire.join(Wire.segment(2, 4), 2));
        attribute(check, "20 numbers", true, 64, 2, Wire.segment(2, new int[20]));
        attribute(check, "21 numbers", false, 64, 2, Wire.segment(2, new int[21]));
        attribute(check, "20 in two", true, 64, 2, Wire.join(Wire.segment(1, new int[7]), Wire.segment(2, new int[13])));
        attribute(check, "21 in two", false, 64, 2, Wire.join(Wire.segment(1, new int[8]), Wire.segment(2, new int[13])));
        attribute(check, "way with 128", false, 192, 2);
        int[] body = Wire.join(Wire.segment(1, 5, -1, 3, Integer.MIN_VALUE, 4), Wire.segment(2, 9, 8));
        body = Wire.join(body, Wire.segment(1, 2, 1));
        DomainHouse house = told(check, "rising", 0, Check.NONE, new Wire().attribute(64, 2, body).bytes());
        check.dueRow("each segment by itself", i -> house.part(500 + i), 3, 4, 5, Integer.MIN_VALUE, -1, 9, 8, 1, 2);
        int[] wrong = Wire.join(Wire.segment(2, 6), 3, 1, 0, 0, 0, 0);
        DomainHouse other = told(check, "wrong way", WITHDRAW, 4, new Wire().attribute(64, 2, wrong).bytes());
        check.due("is none", other.part(6), 0);
        check.due("is none", other.part(500), Check.NONE);
    }

    private static void missingAttributes(Check check) {
        told(check, "only withdrawn", 0, Check.NONE, new Wire().withdraw(TEN, 8).bytes());
        told(check, "no origin", WITHDRAW, 13, new Wire().way(5).announce(0, 0).bytes());
        told(check, "no way", WITHDRAW, 8, new Wire().origin(0).announce(0, 0).bytes());
        told(check, "neither", WITHDRAW, 6, new Wire().withdraw(TEN, 8).announce(0, 0).bytes());
        told(check, "an empty way will do", 0, Check.NONE, new Wire().origin(0).way().announce(0, 0).bytes());
        Wire wire = new Wire().withdraw(TEN, 8).withdraw(0, 0).way(4).cost(3).announce(11 << 24, 8).announce(12 << 24, 7);
        DomainHouse house = told(check, "withdrawn instead", WITHDRAW, 23, wire.bytes());
        check.due("withdrawn", house.part(1), 4);
        check.due("announced", house.part(2), 0);
        check.dueRow("behind the others", i -> house.part(100 + i), TEN, 0, 11 << 24, 12 << 24);
        check.dueRow("lengths", i -> house.part(200 + i), 8, 0, 8, 7);
        check.due("none announced", house.part(300), Check.NONE);
        check.due("cost", house.part(5), 3);
        check.due("way", house.part(500), 4);
    }

    private static void dropFaults(Check check) {
        DomainHouse house = told(check, "origin twice", DROP, 17, good().origin(2).announce(0, 0).bytes());
        check.due("the first counts", house.part(4), 0);
        check.due("taken", house.part(2), 1);
        told(check, "what comes twice is not looked at", DROP, 17, good().attribute(0, 2, 1, 2, 3).announce(0, 0).bytes());
        told(check, "the first of the kind", DROP, 17, good().origin(0).origin(0).bytes());
        told(check, "another type twice", DROP, 7, new Wire().attribute(192, 9).attribute(0, 9).bytes());
        told(check, "right or not", WITHDRAW, 4, new Wire().origin(9).way().origin(0).announce(0, 0).bytes());
    }

    private static void whichKindIsTold(Check check) {
        told(check, "WITHDRAW ahead of DROP", WITHDRAW, 21, good().origin(0).attribute(64, 77).bytes());
        int[] all = good().origin(0).attribute(64, 77).announce(TEN, 8).rawAnnounced(33).bytes();
        told(check, "CLOSE ahead of all", CLOSE, all.length - 1, all);
        told(check, "twice and not all there", WITHDRAW, 17, good().raw(64, 1, 2, 0).bytes());
    }

    private static void numbersTaken(Check check) {
        int[][] costs = {{0, 0}, {1000000, 1000000}, {1000001, 1000000}, {Integer.MAX_VALUE, 1000000}, {-1, 1000000}};
        for (int[] one : costs) {
            DomainHouse house = told(check, "cost " + one[0], 0, Check.NONE, new Wire().cost(one[0]).bytes());
            check.due("cost " + one[0], house.part(5), one[1]);
        }
        Wire wire = new Wire().marks(5, 5, 65541, 4, 3, 2, 1, 0, 9, 8, 7);
        DomainHouse house = told(check, "marks", 0, Check.NONE, wire.bytes());
        check.dueRow("the first 8 unlike ones", i -> house.part(600 + i), 5, 4, 3, 2, 1, 0, 9, 8);
        check.due("how many", house.part(7), 8);
    }

    private static void carried(Check check) {
        Wire wire = new Wire().attribute(192, 77, 1).attribute(128, 78).attribute(223, 3).attribute(192, 77).cost(1);
        DomainHouse house = told(check, "carried", DROP, 15, wire.bytes());
        check.due("how many", house.part(3), 2);
        check.dueRow("types", i -> house.part(700 + i), 77, 3);
        Wire many = new Wire();
        for (int type = 0; type < 256; type++) {
            if (type != 1 && type != 2 && type != 4 && type != 8) {
                many.attribute(192, type);
            }
        }
        DomainHouse full = told(check, "all types", 0, Check.NONE, many.bytes());
        check.due("all", full.part(3), 252);
        check.due("the last", full.part(700 + 251), 255);
        check.due("none such", full.part(700 + 252), Check.NONE);
    }

    private static void manyPrefixes(Check check) {
        Wire wire = good();
        for (int i = 0; i < 150; i++) {
            wire.withdraw(i << 24, 8);
            wire.announce(i << 24, 9);
        }
        DomainHouse house = told(check, "many", 0, Check.NONE, wire.bytes());
        check.due("withdrawn", house.part(1), 150);
        check.due("announced", house.part(2), 150);
        check.due("100 can be asked", house.part(199), 99 << 24);
        check.due("then their lengths", house.part(200), 8);
        check.due("their lengths", house.part(299), 8);
        check.due("announced ones", house.part(399), 99 << 24);
        check.due("their lengths", house.part(499), 9);
        check.due("the way behind them", house.part(500), 5);
        int[] zeros = new int[1000];
        zeros[0] = 996 >> 8;
        zeros[1] = 996 & 255;
        DomainHouse full = told(check, "996", 0, Check.NONE, zeros);
        check.due("996", full.part(1), 996);
    }

    private static DomainHouse house() {
        DomainHouse house = new DomainHouse();
        house.prefix(TEN, 8);
        house.prefix(11 << 24, 8);
        Check.domains(house, 3);
        house.tie(0, 1, 0);
        house.tie(1, 2, 0);
        return house;
    }

    private static void hear(Check check) {
        DomainHouse house = house();
        check.due("no message", house.hear(0, 1), Check.NO);
        check.due("no tie, BAD ahead of NO", house.hear(2, 0), Check.BAD);
        check.due("side 2", house.hear(0, 2), Check.BAD);
        Check.message(house);
        check.due("CLOSE", house.hear(0, 1), Check.NO);
        Wire wire = new Wire().origin(1).way(9, 8).cost(4).marks(6, 5).announce(TEN, 8).announce(TEN, 9).announce(11 << 24, 8);
        check.due("two are prefixes", Wire.hear(house, 0, 1, wire.announce(TEN, 8)), 3);
        check.due("picked", house.picked(1, 0), 0);
        int[] want = {0, 100, 1, 4, 2, 2};
        for (int i = 0; i < want.length; i++) {
            check.due("hand " + i, house.hand(i), want[i]);
        }
        check.dueRow("way", i -> house.hand(10 + i), 9, 8);
        check.dueRow("marks", i -> house.hand(100 + i), 5, 6);
        check.due("picked", house.picked(1, 1), 0);
        check.due("its own prefix", house.hand(0), 1);
        Wire other = good().withdraw(TEN, 8).withdraw(11 << 24, 8).announce(TEN, 8);
        check.due("withdrawn, then announced", Wire.hear(house, 0, 1, other), 3);
        check.due("announced", house.picked(1, 0), 0);
        check.due("anew", house.hand(10), 5);
        check.due("withdrawn", house.picked(1, 1), Check.NONE);
        check.due("the same again", house.hear(1, 0), 3);
        house.raise(0, false);
        check.due("not up", house.hear(0, 1), Check.NO);
        Wire.hear(house, 1, 0, new Wire().announce(TEN, 8));
        check.due("withdrawn instead", house.picked(1, 0), Check.NONE);
    }

    private static void hearInTime(Check check) {
        DomainHouse house = house();
        house.until(40);
        Wire.hear(house, 0, 1, good().announce(TEN, 8));
        check.due("when", house.heard(0, 1, 0, 0), 40);
        check.due("goes on", house.count(8), 1);
        house.go(9);
        check.due("said at", house.heard(1, 0, 0, 1), 40);
        check.due("heard at", house.heard(1, 1, 0, 0), 41);
        check.dueRow("way", i -> house.hand(10 + i), 1, 5);
        house.until(50);
        house.hear(0, 1);
        check.due("heard anew", house.heard(0, 1, 0, 0), 50);
        check.due("nothing else changed", house.count(8), 0);
        Wire.hear(house, 0, 1, new Wire().origin(0).way().announce(TEN, 8));
        house.go(9);
        house.heard(1, 1, 0, 0);
        check.dueRow("an empty way goes on", i -> house.hand(10 + i), 1);
    }

    private static void written(Check check, DomainHouse house, int tie, int side, int prefix, int... want) {
        check.due("write", house.write(tie, side, prefix), want.length);
        check.dueRow("octet", house::octet, want);
    }

    private static void write(Check check) {
        DomainHouse house = house();
        house.prefix(0, 0);
        house.prefix(0xC0A80180, 25);
        written(check, house, 0, 0, 0, 0, 2, 8, 10, 0, 0);
        written(check, house, 0, 0, 2, 0, 1, 0, 0, 0);
        written(check, house, 0, 0, 3, 0, 5, 25, 192, 168, 1, 128, 0, 0);
        house.announce(0, 0, 2);
        written(check, house, 0, 0, 0, 0, 0, 0, 13, 64, 1, 1, 2, 64, 2, 6, 2, 1, 0, 0, 0, 0, 8, 10);
        Wire wire = new Wire().origin(0).way(-2, 258).cost(66051).marks(65535, 3).announce(TEN, 8);
        Wire.hear(house, 0, 1, wire);
        written(check, house, 1, 0, 0, 0, 0, 0, 39, 64, 1, 1, 0, 64, 2, 14, 2, 3, 0, 0, 0, 1, 255, 255, 255, 254, 0, 0, 1, 2,
            128, 4, 4, 0, 1, 2, 3, 192, 8, 8, 0, 0, 0, 3, 0, 0, 255, 255, 8, 10);
        check.due("no tie", house.write(2, 0, 0), Check.BAD);
        check.due("side", house.write(0, 2, 0), Check.BAD);
        check.due("prefix", house.write(0, 0, 4), Check.BAD);
        check.due("still the latest", house.octet(3), 39);
        check.due("octet -1", house.octet(-1), Check.NONE);
        check.due("octet 256", house.octet(256), Check.NONE);
    }

    /** What is written for the longest route is read as just that route. */
    private static void writtenIsRead(Check check) {
        DomainHouse house = house();
        int[] way = new int[19];
        for (int i = 0; i < way.length; i++) {
            way[i] = 1000000007 * (i + 1);
        }
        Wire.hear(house, 0, 1, new Wire().origin(1).way(way).cost(999999).marks(1, 2, 3, 4, 5, 6, 7, 8).announce(TEN, 8));
        int size = house.write(1, 0, 0);
        check.due("bytes", size, 4 + 4 + 3 + 82 + 7 + 3 + 32 + 2);
        int[] bytes = new int[size];
        for (int i = 0; i < size; i++) {
            bytes[i] = house.octet(i);
        }
        check.due("read", Check.message(house, bytes), 0);
        check.due("origin", house.part(4), 1);
        check.due("cost", house.part(5), 999999);
        check.due("marks", house.part(7), 8);
        check.dueRow("way", i -> house.part(500 + i), Wire.join(new int[] {1}, way));
        check.due("prefix", house.part(300), TEN);
    }
}
