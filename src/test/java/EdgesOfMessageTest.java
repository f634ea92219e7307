/** The edges of promises 32 to 36 and of part 5 of the terms: messages as bytes, their faults, what is taken, what is written. */
public final class EdgesOfMessageTest {
    private static final int LEAST = Integer.MIN_VALUE;
    private static final int MOST = Integer.MAX_VALUE;
    private static final int TEN = Scene.TEN;
    private static final int CLOSE = 1;
    private static final int WITHDRAW = 2;
    private static final int DROP = 3;

    public static void main(String[] args) {
        Check check = new Check("EdgesOfMessageTest");
        leastMessages(check);
        partsNotThere(check);
        lengthsOfParts(check);
        lengthsOfPrefixes(check);
        bytesOfPrefixes(check);
        firstClose(check);
        bitsBehind(check);
        sizesOfAttributes(check);
        attributesNotAllThere(check);
        flags(check);
        origins(check);
        segments(check);
        numbersInAll(check);
        risingOrder(check);
        costs(check);
        marks(check);
        otherTypes(check);
        missing(check);
        typesThatWereThere(check);
        leastKind(check);
        closeTakesNothing(check);
        withdrawnInstead(check);
        carried(check);
        tapeIsEmptied(check);
        latestAlone(check);
        atTheEndOfTheTape(check);
        placeOfTheFault(check);
        askedOfRows(check);
        hundredOfEach(check);
        noMessage(check);
        hears(check);
        hearsOneByOne(check);
        wrongHears(check);
        notNow(check);
        writes(check);
        writesNothing(check);
        wrongWrites(check);
        octets(check);
        check.end();
    }

    private static Wire good() {
        return new Wire().origin(0).way(5);
    }

    private static DomainHouse told(Check check, String name, int kind, int place, int... bytes) {
        DomainHouse house = new DomainHouse();
        check.due(name, Check.message(house, bytes), kind);
        check.due("place of " + name, house.part(0), place);
        return house;
    }

    private static DomainHouse right(Check check, String name, int... bytes) {
        return told(check, name, 0, Check.NONE, bytes);
    }

    // ---- parts and prefixes

    private static void leastMessages(Check check) {
        check.term(5, "A MESSAGE is bytes (of several the highest first): W (2 bytes), W bytes: WITHDRAWN; A (2 bytes), A bytes: ATTRIBUTES; the rest: ANNOUNCED.");
        DomainHouse house = right(check, "four bytes", 0, 0, 0, 0);
        for (int what = 1; what <= 7; what++) {
            check.due("part " + what, house.part(what), 0);
        }
        DomainHouse high = right(check, "W 256", Wire.join(Wire.join(new int[] {1, 0}, new int[256]), 0, 0));
        check.due("256 of length 0", high.part(1), 256);
        int[] body = new int[256];
        body[0] = 144;
        body[1] = 99;
        body[3] = 252;
        right(check, "A 256", Wire.join(new int[] {0, 0, 1, 0}, body));
        DomainHouse rest = right(check, "the rest", good().announce(0, 0).announce(0, 0).bytes());
        check.due("ANNOUNCED", rest.part(2), 2);
    }

    private static void partsNotThere(Check check) {
        check.term(5, "FAULTS, of each KIND the first one: 1 CLOSE, at the byte at which it begins: W, A, or what they tell, are not all there (at W, A);");
        told(check, "no byte", CLOSE, 0);
        told(check, "half of W", CLOSE, 0, 0);
        told(check, "W 1 and no byte", CLOSE, 0, 0, 1);
        told(check, "W 65535", CLOSE, 0, 255, 255, 0, 0);
        told(check, "W 256 and 255 bytes", CLOSE, 0, Wire.join(new int[] {1, 0}, new int[255]));
        told(check, "W and no A", CLOSE, 2, 0, 0);
        told(check, "half of A", CLOSE, 2, 0, 0, 0);
        told(check, "half of A behind one that is WITHDRAWN", CLOSE, 3, 0, 1, 0, 0);
        told(check, "W takes the bytes of A", CLOSE, 4, 0, 2, 0, 0);
        told(check, "A 1 and no byte", CLOSE, 2, 0, 0, 0, 1);
        told(check, "A 65535", CLOSE, 2, 0, 0, 255, 255, 64, 1, 1, 0);
        right(check, "A and all of it", 0, 0, 0, 4, 64, 1, 1, 0);
        told(check, "A and one byte less", CLOSE, 2, 0, 0, 0, 4, 64, 1, 1);
    }

    private static void lengthsOfParts(Check check) {
        check.term(5, "W (2 bytes), W bytes: WITHDRAWN; A (2 bytes), A bytes: ATTRIBUTES; the rest: ANNOUNCED.");
        int[] longest = new int[1000];
        longest[0] = 996 >> 8;
        longest[1] = 996 & 255;
        DomainHouse house = right(check, "W 996 of 1000 bytes", longest);
        check.due("WITHDRAWN", house.part(1), 996);
        longest[1]++;
        told(check, "W 997", CLOSE, 999, longest);
        longest[1]++;
        told(check, "W 998", CLOSE, 1000, longest);
        longest[1]++;
        told(check, "W 999", CLOSE, 0, longest);
        int[] announced = Wire.join(good().bytes(), new int[1000 - good().bytes().length]);
        DomainHouse other = right(check, "the rest of 1000 bytes", announced);
        check.due("ANNOUNCED", other.part(2), 1000 - good().bytes().length);
    }

    private static void lengthsOfPrefixes(Check check) {
        check.term(5, "a LENGTH above 32,");
        right(check, "32", 0, 5, 32, 1, 2, 3, 4, 0, 0);
        told(check, "33", CLOSE, 2, 0, 6, 33, 1, 2, 3, 4, 5, 0, 0);
        told(check, "33 and its four bytes", CLOSE, 2, 0, 5, 33, 1, 2, 3, 4, 0, 0);
        told(check, "255", CLOSE, 2, 0, 5, 255, 1, 2, 3, 4, 0, 0);
        told(check, "128", CLOSE, 2, 0, 1, 128, 0, 0);
        right(check, "ANNOUNCED 32", good().rawAnnounced(32, 1, 2, 3, 4).bytes());
        int place = good().bytes().length;
        told(check, "ANNOUNCED 33", CLOSE, place, good().rawAnnounced(33, 1, 2, 3, 4, 5).bytes());
        told(check, "behind a right one", CLOSE, place + 1, good().rawAnnounced(0, 33).bytes());
    }

    private static void bytesOfPrefixes(Check check) {
        check.term(5, "or whose bytes are not all in its part.");
        int[] needs = {0, 1, 1, 1, 1, 1, 1, 1, 1, 2, 2, 2, 2, 2, 2, 2, 2, 3, 3, 3, 3, 3, 3, 3, 3, 4, 4, 4, 4, 4, 4, 4, 4};
        int announcedAt = good().bytes().length;
        for (int length = 0; length <= 32; length++) {
            int[] all = new int[1 + needs[length]];
            all[0] = length;
            DomainHouse house = right(check, "WITHDRAWN " + length, new Wire().rawWithdrawn(all).bytes());
            check.due("one", house.part(1), 1);
            right(check, "ANNOUNCED " + length, good().rawAnnounced(all).bytes());
            if (length > 0) {
                int[] less = java.util.Arrays.copyOf(all, all.length - 1);
                told(check, "a byte less, WITHDRAWN " + length, CLOSE, 2, new Wire().rawWithdrawn(less).bytes());
                told(check, "a byte less, ANNOUNCED " + length, CLOSE, announcedAt, good().rawAnnounced(less).bytes());
            }
        }
        told(check, "its bytes in the next part", CLOSE, 2, 0, 1, 8, 0, 0);
    }

    private static void firstClose(Check check) {
        check.term(5, "FAULTS, of each KIND the first one:");
        told(check, "two in WITHDRAWN", CLOSE, 3, 0, 3, 0, 33, 40, 0, 0);
        told(check, "in WITHDRAWN and at A", CLOSE, 2, 0, 1, 33, 0, 9);
        told(check, "in WITHDRAWN and in ANNOUNCED", CLOSE, 2, 0, 1, 33, 0, 0, 33);
        told(check, "at A, though behind it there is none", CLOSE, 3, 0, 1, 0, 0, 9, 33);
        int place = good().bytes().length;
        told(check, "two in ANNOUNCED", CLOSE, place, good().rawAnnounced(34, 33).bytes());
    }

    private static void bitsBehind(Check check) {
        check.term(5, "WITHDRAWN, ANNOUNCED: each a LENGTH (a byte) and as many bytes as it needs; bits behind it count for nothing.");
        for (int length = 0; length <= 32; length++) {
            int mask = length == 0 ? 0 : -1 << 32 - length;
            Wire wire = good().withdraw(-1, length).announce(-1, length);
            DomainHouse house = right(check, "all bits, " + length, wire.bytes());
            check.due("WITHDRAWN " + length, house.part(100), mask);
            check.due("LENGTH " + length, house.part(200), length);
            check.due("ANNOUNCED " + length, house.part(300), mask);
            check.due("LENGTH " + length, house.part(400), length);
        }
    }

    // ---- attributes

    private static void attribute(Check check, String name, boolean right, int flags, int type, int... body) {
        int[] bytes = new Wire().attribute(flags, type, body).bytes();
        told(check, name, right ? 0 : WITHDRAW, right ? Check.NONE : 4, bytes);
    }

    private static void sizesOfAttributes(Check check) {
        check.term(5, "ATTRIBUTE: flags, type, a size (a byte; two, if flags have 16), so many bytes.");
        attribute(check, "no bytes", true, 128, 9);
        attribute(check, "255 bytes", true, 128, 9, new int[255]);
        attribute(check, "no bytes, size of two", true, 144, 9);
        attribute(check, "256 bytes, size of two", true, 144, 9, new int[256]);
        attribute(check, "the most that a tape can have", true, 144, 9, new int[992]);
        DomainHouse house = right(check, "ORIGIN with 16", 0, 0, 0, 5, 80, 1, 0, 1, 2);
        check.due("ORIGIN", house.part(4), 2);
        told(check, "without 16 its size is the byte 0", WITHDRAW, 4, 0, 0, 0, 5, 64, 1, 0, 1, 2);
    }

    private static void attributesNotAllThere(Check check) {
        check.term(5, "2 WITHDRAW: an ATTRIBUTE that is not all in ATTRIBUTES (nothing behind it is looked at);");
        told(check, "flags", WITHDRAW, 4, 0, 0, 0, 1, 128);
        told(check, "flags, type", WITHDRAW, 4, 0, 0, 0, 2, 128, 9);
        right(check, "flags, type, size 0", 0, 0, 0, 3, 128, 9, 0);
        told(check, "size 1 and no byte", WITHDRAW, 4, 0, 0, 0, 3, 128, 9, 1);
        right(check, "size 1 and a byte", 0, 0, 0, 4, 128, 9, 1, 0);
        told(check, "size of two, half of it", WITHDRAW, 4, 0, 0, 0, 3, 144, 9, 0);
        right(check, "size of two, 0", 0, 0, 0, 4, 144, 9, 0, 0);
        told(check, "size of two, 1 and no byte", WITHDRAW, 4, 0, 0, 0, 4, 144, 9, 0, 1);
        told(check, "size of two, 256 and 255 bytes", WITHDRAW, 4, new Wire().raw(144, 9, 1, 0).raw(new int[255]).bytes());
        told(check, "its bytes among the ANNOUNCED ones", WITHDRAW, 4, 0, 0, 0, 3, 128, 9, 1, 0);
        told(check, "the second one", WITHDRAW, 7, 0, 0, 0, 5, 128, 9, 0, 64, 1);
        DomainHouse house = told(check, "nothing behind it", WITHDRAW, 4, new Wire().raw(192, 9, 200).origin(1).attribute(192, 10).bytes());
        check.due("no ORIGIN", house.part(4), 0);
        check.due("none is CARRIED", house.part(3), 0);
        DomainHouse ahead = told(check, "ahead of it", WITHDRAW, 8, new Wire().origin(1).raw(128).bytes());
        check.due("its ORIGIN", ahead.part(4), 1);
    }

    private static void flags(Check check) {
        check.term(5, "one of types 1, 2, 4, 8 with other flags (16 and 32 left out) or not as told, more than 20 numbers in all;");
        int[] types = {1, 2, 4, 8};
        int[] wanted = {64, 64, 128, 192};
        int[][] bodies = {{0}, {}, {0, 0, 0, 0}, {0, 0, 0, 0}};
        for (int i = 0; i < types.length; i++) {
            for (int flags = 0; flags <= 255; flags++) {
                boolean right = (flags & ~48) == wanted[i];
                attribute(check, "type " + types[i] + " with " + flags, right, flags, types[i], bodies[i]);
            }
        }
    }

    private static void origins(Check check) {
        check.term(5, "Types: 1 ORIGIN (flags 64; a byte 0 .. 2);");
        for (int origin = 0; origin <= 2; origin++) {
            DomainHouse house = right(check, "origin " + origin, new Wire().origin(origin).bytes());
            check.due("it is", house.part(4), origin);
        }
        attribute(check, "origin 3", false, 64, 1, 3);
        attribute(check, "origin 255", false, 64, 1, 255);
        attribute(check, "no byte", false, 64, 1);
        attribute(check, "two bytes", false, 64, 1, 0, 0);
        DomainHouse house = told(check, "a wrong one", WITHDRAW, 4, new Wire().attribute(64, 1, 1, 1).bytes());
        check.due("is none", house.part(4), 0);
    }

    private static void segments(Check check) {
        check.term(5, "2 WAY (64; segments: 1 or 2, how many (1 and more), so many numbers of 4 bytes;");
        attribute(check, "segment 0", false, 64, 2, Wire.segment(0, 7));
        attribute(check, "segment 1", true, 64, 2, Wire.segment(1, 7));
        attribute(check, "segment 2", true, 64, 2, Wire.segment(2, 7));
        attribute(check, "segment 3", false, 64, 2, Wire.segment(3, 7));
        attribute(check, "segment 255", false, 64, 2, Wire.segment(255, 7));
        attribute(check, "none in it", false, 64, 2, 2, 0);
        attribute(check, "none in the second", false, 64, 2, Wire.join(Wire.segment(2, 7), 2, 0));
        attribute(check, "a half one", false, 64, 2, 2);
        attribute(check, "no number", false, 64, 2, 2, 1);
        attribute(check, "three bytes of four", false, 64, 2, 2, 1, 0, 0, 0);
        attribute(check, "a byte too many", false, 64, 2, Wire.join(Wire.segment(2, 7), 1));
        attribute(check, "a number too many", false, 64, 2, Wire.join(Wire.segment(2, 7), Wire.four(8)));
        attribute(check, "a number too few", false, 64, 2, 2, 2, 0, 0, 0, 7);
        check.term(5, "there may be no segments);");
        DomainHouse house = right(check, "no segments", new Wire().origin(0).way().announce(0, 0).bytes());
        check.due("an empty WAY", house.part(6), 0);
        check.due("taken", house.part(2), 1);
    }

    private static void numbersInAll(Check check) {
        check.term(5, "more than 20 numbers in all;");
        attribute(check, "20", true, 64, 2, Wire.segment(2, new int[20]));
        attribute(check, "21", false, 64, 2, Wire.segment(2, new int[21]));
        attribute(check, "20 of a 1", true, 64, 2, Wire.segment(1, new int[20]));
        attribute(check, "21 of a 1", false, 64, 2, Wire.segment(1, new int[21]));
        attribute(check, "19 and 1", true, 64, 2, Wire.join(Wire.segment(2, new int[19]), Wire.segment(1, 7)));
        attribute(check, "20 and 1", false, 64, 2, Wire.join(Wire.segment(2, new int[20]), Wire.segment(1, 7)));
        attribute(check, "1 and 20", false, 64, 2, Wire.join(Wire.segment(1, 7), Wire.segment(2, new int[20])));
        attribute(check, "62", false, 64, 2, Wire.segment(2, new int[62]));
        attribute(check, "200, size of two", false, 80, 2, Wire.segment(2, new int[200]));
        int[] twenty = new int[0];
        for (int i = 0; i < 20; i++) {
            twenty = Wire.join(twenty, Wire.segment(1 + i % 2, i));
        }
        attribute(check, "twenty segments", true, 64, 2, twenty);
        attribute(check, "21 segments", false, 64, 2, Wire.join(twenty, Wire.segment(2, 5)));
        DomainHouse house = right(check, "twenty segments", new Wire().attribute(64, 2, twenty).bytes());
        check.due("20", house.part(6), 20);
        check.due("the last", house.part(519), 19);
        check.due("none behind", house.part(520), Check.NONE);
    }

    private static void risingOrder(Check check) {
        check.term(5, "those of a 1 are put in rising order, as numbers without sign;");
        int[] ones = Wire.segment(1, -1, LEAST, MOST, 0, 1, -2, 1);
        DomainHouse house = right(check, "of a 1", new Wire().attribute(64, 2, ones).bytes());
        check.dueRow("rising", i -> house.part(500 + i), 0, 1, 1, MOST, LEAST, -2, -1);
        int[] twos = Wire.segment(2, -1, LEAST, MOST, 0, 1, -2, 1);
        DomainHouse other = right(check, "of a 2", new Wire().attribute(64, 2, twos).bytes());
        check.dueRow("as they came", i -> other.part(500 + i), -1, LEAST, MOST, 0, 1, -2, 1);
        int[] three = Wire.join(Wire.join(Wire.segment(1, 9, 8), Wire.segment(2, 7, 6)), Wire.segment(1, 5, 4));
        DomainHouse mixed = right(check, "three segments", new Wire().attribute(64, 2, three).bytes());
        check.dueRow("each by itself", i -> mixed.part(500 + i), 8, 9, 7, 6, 4, 5);
    }

    private static void costs(Check check) {
        check.term(5, "4 COST (128; 4 bytes; above 1000000: that, without sign);");
        int[][] each = {
            {0, 0}, {1, 1}, {999999, 999999}, {1000000, 1000000}, {1000001, 1000000}, {MOST, 1000000}, {LEAST, 1000000}, {-1, 1000000},
        };
        for (int[] one : each) {
            DomainHouse house = right(check, "cost " + one[0], new Wire().cost(one[0]).bytes());
            check.due("cost " + one[0], house.part(5), one[1]);
        }
        attribute(check, "no bytes", false, 128, 4);
        attribute(check, "three bytes", false, 128, 4, 0, 0, 1);
        attribute(check, "five bytes", false, 128, 4, 0, 0, 0, 0, 1);
        DomainHouse house = told(check, "a wrong one", WITHDRAW, 4, new Wire().attribute(128, 4, 0, 0, 9).bytes());
        check.due("is none", house.part(5), 0);
    }

    private static void marks(Check check) {
        check.term(5, "8 MARKS (192; 4 bytes each: the lowest 16 bits; the first 8 unlike ones).");
        attribute(check, "none", true, 192, 8);
        int[] wrong = {1, 2, 3, 5, 6, 7, 33};
        for (int size : wrong) {
            attribute(check, size + " bytes", false, 192, 8, new int[size]);
        }
        DomainHouse bits = right(check, "bits", new Wire().marks(-1, 65535, 65536, 0, LEAST, 131073).bytes());
        check.dueRow("the lowest 16", i -> bits.part(600 + i), 65535, 0, 1);
        DomainHouse eight = right(check, "eight", new Wire().marks(8, 7, 6, 5, 4, 3, 2, 1).bytes());
        check.dueRow("as they came", i -> eight.part(600 + i), 8, 7, 6, 5, 4, 3, 2, 1);
        DomainHouse nine = right(check, "nine", new Wire().marks(9, 8, 7, 6, 5, 4, 3, 2, 1).bytes());
        check.dueRow("the first eight", i -> nine.part(600 + i), 9, 8, 7, 6, 5, 4, 3, 2);
        DomainHouse alike = right(check, "alike ones", new Wire().marks(9, 9, 8, 7, 7, 6, 5, 4, 3, 2, 9, 1).bytes());
        check.dueRow("the first eight unlike ones", i -> alike.part(600 + i), 9, 8, 7, 6, 5, 4, 3, 2);
        check.due("how many", alike.part(7), 8);
        DomainHouse house = told(check, "a wrong one", WITHDRAW, 4, new Wire().attribute(192, 8, 0, 0, 0, 9, 0).bytes());
        check.due("is none", house.part(7), 0);
    }

    private static void otherTypes(Check check) {
        check.term(5, "one of another type without 128 in its flags; at its first byte;");
        int[] types = {0, 3, 5, 6, 7, 9, 255};
        for (int type : types) {
            attribute(check, "type " + type + " with 128", true, 128, type, 1, 2, 3);
            attribute(check, "type " + type + " with 0", false, 0, type, 1, 2, 3);
            attribute(check, "type " + type + " with 111", false, 111, type, 1, 2, 3);
            attribute(check, "type " + type + " with 127", false, 127, type, 1, 2, 3);
            attribute(check, "type " + type + " with 239", true, 239, type, 1, 2, 3);
        }
        told(check, "the second one, at its first byte", WITHDRAW, 8, new Wire().origin(0).attribute(64, 9, 1, 2).bytes());
    }

    private static void missing(Check check) {
        check.term(5, "at the end of ATTRIBUTES: something is ANNOUNCED, and there was no right ORIGIN or no right WAY.");
        right(check, "nothing is ANNOUNCED", 0, 0, 0, 0);
        right(check, "ORIGIN alone, nothing is ANNOUNCED", new Wire().origin(0).bytes());
        told(check, "neither", WITHDRAW, 4, 0, 0, 0, 0, 0);
        told(check, "no WAY", WITHDRAW, 8, new Wire().origin(0).announce(0, 0).bytes());
        told(check, "no ORIGIN", WITHDRAW, 13, new Wire().way(7).announce(0, 0).bytes());
        right(check, "both", good().announce(0, 0).bytes());
        right(check, "both, the other way round", new Wire().way(7).origin(0).announce(0, 0).bytes());
        told(check, "a wrong ORIGIN is told at itself", WITHDRAW, 4, new Wire().origin(3).way(7).announce(0, 0).bytes());
        told(check, "a wrong WAY is told at itself", WITHDRAW, 8, new Wire().origin(0).attribute(64, 2, 9).announce(0, 0).bytes());
        told(check, "behind WITHDRAWN ones", WITHDRAW, 6, new Wire().withdraw(TEN, 8).announce(0, 0).bytes());
        told(check, "what is ANNOUNCED is a CLOSE", CLOSE, 4, 0, 0, 0, 0, 33);
    }

    private static void typesThatWereThere(Check check) {
        check.term(5, "3 DROP: a type that was there already (the first one counts, right or not; this one is not looked at), at its first byte.");
        DomainHouse house = told(check, "ORIGIN", DROP, 17, good().origin(2).announce(0, 0).bytes());
        check.due("the first one counts", house.part(4), 0);
        check.due("it is taken", house.part(2), 1);
        DomainHouse way = told(check, "WAY", DROP, 17, good().way(8, 9).bytes());
        check.due("the first one counts", way.part(6), 1);
        DomainHouse cost = told(check, "COST", DROP, 11, new Wire().cost(5).cost(6).bytes());
        check.due("the first one counts", cost.part(5), 5);
        DomainHouse marks = told(check, "MARKS", DROP, 11, new Wire().marks(5).marks(6).bytes());
        check.dueRow("the first one counts", i -> marks.part(600 + i), 5);
        told(check, "not looked at: flags", DROP, 8, new Wire().origin(0).attribute(0, 1, 0).bytes());
        told(check, "not looked at: its byte", DROP, 8, new Wire().origin(0).origin(9).bytes());
        told(check, "another type without 128", DROP, 7, new Wire().attribute(128, 9).attribute(0, 9).bytes());
        told(check, "the first of three", DROP, 7, new Wire().attribute(128, 9).attribute(128, 9).attribute(128, 9).bytes());
        DomainHouse wrong = told(check, "the first is wrong", WITHDRAW, 4, new Wire().origin(3).way(7).origin(1).announce(0, 0).bytes());
        check.due("it counts", wrong.part(4), 0);
        told(check, "type 0", DROP, 7, new Wire().attribute(128, 0).attribute(128, 0).bytes());
        told(check, "type 255", DROP, 7, new Wire().attribute(128, 255).attribute(128, 255).bytes());
    }

    // ---- what is told

    private static void leastKind(Check check) {
        check.term(5, "the least KIND is told.");
        check.promise(32, "0, or the least KIND of its FAULTS.");
        right(check, "none", good().bytes());
        told(check, "DROP", DROP, 17, good().origin(0).bytes());
        told(check, "DROP and WITHDRAW", WITHDRAW, 21, good().origin(0).attribute(0, 9).bytes());
        told(check, "WITHDRAW and DROP", WITHDRAW, 17, good().attribute(0, 9).origin(0).bytes());
        told(check, "DROP and CLOSE", CLOSE, 21, good().origin(0).rawAnnounced(33).bytes());
        told(check, "WITHDRAW and CLOSE", CLOSE, 7, new Wire().attribute(0, 9).rawAnnounced(33).bytes());
        told(check, "all three", CLOSE, 24, good().origin(0).attribute(0, 9).rawAnnounced(40).bytes());
    }

    private static void closeTakesNothing(Check check) {
        check.term(5, "With CLOSE nothing is taken;");
        DomainHouse house = Scene.chain(2);
        Check.message(house, good().announce(TEN, 8).bytes());
        check.due("taken", house.hear(0, 1), 1);
        Check.message(house, good().withdraw(TEN, 8).rawAnnounced(33).bytes());
        check.due("a WITHDRAWN one ahead of the fault is not taken", house.hear(0, 1), Check.NO);
        check.due("it is still PICKED", house.picked(1, 0), 0);
        check.promise(33, "NONE: none such, no MESSAGE, or CLOSE (but 0).");
        int[] parts = {1, 2, 3, 4, 5, 6, 7, 100, 200, 300, 400, 500, 600, 700};
        for (int what : parts) {
            check.due("part " + what, house.part(what), Check.NONE);
        }
        check.due("but 0", house.part(0), 19);
    }

    private static void withdrawnInstead(Check check) {
        check.term(5, "with WITHDRAW what is ANNOUNCED is WITHDRAWN instead;");
        check.promise(33, "1 how many are WITHDRAWN, 2 ANNOUNCED (as taken; WITHDRAWN instead: behind the others),");
        Wire wire = good().attribute(0, 9).withdraw(TEN, 8).withdraw(0, 0).announce(-1, 32).announce(TEN, 9);
        DomainHouse house = told(check, "instead", WITHDRAW, 20, wire.bytes());
        check.due("WITHDRAWN", house.part(1), 4);
        check.due("ANNOUNCED", house.part(2), 0);
        check.dueRow("behind the others", i -> house.part(100 + i), TEN, 0, -1, TEN);
        check.dueRow("LENGTHS", i -> house.part(200 + i), 8, 0, 32, 9);
        check.due("none", house.part(300), Check.NONE);
        check.due("none", house.part(400), Check.NONE);
        DomainHouse drop = told(check, "DROP takes all", DROP, 17, good().origin(0).announce(TEN, 8).bytes());
        check.due("ANNOUNCED", drop.part(2), 1);
    }

    private static void carried(Check check) {
        check.term(5, "An ATTRIBUTE of another type with 128 and 64 is CARRIED.");
        check.promise(33, "3 CARRIED,");
        Wire wire = new Wire().attribute(192, 9).attribute(128, 10).attribute(255, 0).attribute(208, 255).attribute(192, 9).marks(5);
        DomainHouse house = told(check, "carried", DROP, 18, wire.bytes());
        check.due("three", house.part(3), 3);
        check.promise(33, "700 + i the type of the i-th CARRIED one.");
        check.dueRow("types", i -> house.part(700 + i), 9, 0, 255);
        DomainHouse without = told(check, "with 64 alone", WITHDRAW, 4, new Wire().attribute(64, 9).attribute(192, 10).bytes());
        check.dueRow("it is not CARRIED, the next one is", i -> without.part(700 + i), 10);
        Wire many = new Wire();
        for (int type = 0; type <= 255; type++) {
            if (type != 1 && type != 2 && type != 4 && type != 8) {
                many.attribute(192, type);
            }
        }
        DomainHouse all = right(check, "all types", many.bytes());
        check.due("252", all.part(3), 252);
        check.due("the first", all.part(700), 0);
        check.due("the 100th", all.part(799), 103);
        DomainHouse none = right(check, "none", 0, 0, 0, 0);
        check.due("none", none.part(700), Check.NONE);
    }

    private static void tapeIsEmptied(Check check) {
        check.promise(32, "The TAPE, which is empty then, is a MESSAGE:");
        DomainHouse house = new DomainHouse();
        int[][] each = {{}, {0, 0, 0, 0}, {0}, {0, 0, 0, 1, 9}, good().origin(0).bytes()};
        for (int[] bytes : each) {
            Check.message(house, bytes);
            check.due("empty then", house.count(6), 0);
        }
        check.due("so the next one is empty, and a CLOSE", house.message(), CLOSE);
    }

    /** Nothing of an earlier message is left in a later one. */
    private static void latestAlone(Check check) {
        check.promise(33, "Of the latest message():");
        DomainHouse house = new DomainHouse();
        Wire full = new Wire().origin(2).way(7, 8).cost(9).marks(1, 2).attribute(192, 33).attribute(192, 34).withdraw(TEN, 8).announce(0, 0);
        check.due("all", Check.message(house, full.bytes()), 0);
        check.due("no ORIGIN, no WAY: those ahead do not count", Check.message(house, 0, 0, 0, 0, 0), WITHDRAW);
        check.due("no WAY", Check.message(house, new Wire().origin(0).announce(0, 0).bytes()), WITHDRAW);
        check.due("all again", Check.message(house, full.bytes()), 0);
        check.due("no ORIGIN", Check.message(house, new Wire().way(7).announce(0, 0).bytes()), WITHDRAW);
        check.due("a type that was there in another one", Check.message(house, full.bytes()), 0);
        check.due("none", Check.message(house, 0, 0, 0, 0), 0);
        for (int what = 1; what <= 7; what++) {
            check.due("part " + what, house.part(what), 0);
        }
        int[] rows = {100, 200, 300, 400, 500, 600, 700};
        for (int what : rows) {
            check.due("part " + what, house.part(what), Check.NONE);
        }
        check.due("one is CARRIED", Check.message(house, new Wire().attribute(192, 35).bytes()), 0);
        check.dueRow("that alone", i -> house.part(700 + i), 35);
    }

    /** Attributes whose last byte is the last one that a tape can have. */
    private static void atTheEndOfTheTape(Check check) {
        check.term(5, "2 WITHDRAW: an ATTRIBUTE that is not all in ATTRIBUTES");
        int[][] last = {{64}, {64, 2}, {80, 2, 0}, {64, 2, 1}, {64, 2, 1, 2}, {64, 2, 2, 2, 1}, {64, 2, 5, 2, 1, 0, 0, 0}, {64, 1, 1}, {128, 4, 4, 0, 0, 0},
            {192, 8, 4, 0, 0, 0}};
        for (int[] one : last) {
            int padding = 1000 - 4 - 4 - one.length;
            Wire wire = new Wire().attribute(144, 99, new int[padding]).raw(one);
            told(check, "at the end " + java.util.Arrays.toString(one), WITHDRAW, 1000 - one.length, wire.bytes());
        }
        check.term(5, "or whose bytes are not all in its part.");
        int[][] prefixes = {{8}, {9, 1}, {32, 1, 2, 3}, {33}, {255}};
        for (int[] one : prefixes) {
            int padding = 1000 - 4 - 13 - 4 - one.length;
            Wire wire = good().attribute(144, 99, new int[padding]).rawAnnounced(one);
            told(check, "at the end " + java.util.Arrays.toString(one), CLOSE, 1000 - one.length, wire.bytes());
        }
    }

    private static void placeOfTheFault(Check check) {
        check.promise(33, "Of the latest message(): 0 the place of its FAULT (of the KIND told; NONE),");
        DomainHouse house = new DomainHouse();
        Check.message(house, 0, 0, 0, 1, 9);
        check.due("a fault", house.part(0), 4);
        Check.message(house, 0, 0, 0, 0);
        check.due("the latest has none", house.part(0), Check.NONE);
        Check.message(house, good().origin(0).attribute(0, 9).bytes());
        check.due("of the KIND told", house.part(0), 21);
        Check.message(house);
        check.due("at 0", house.part(0), 0);
        check.due("asked again", house.part(0), 0);
    }

    private static void askedOfRows(Check check) {
        check.promise(33, "4 ORIGIN, 5 COST, 6 how many numbers the WAY has, 7 how many MARKS; 100 + i, 200 + i the ADDRESS, LENGTH of the i-th WITHDRAWN one, "
            + "300 + i, 400 + i of the i-th ANNOUNCED one");
        Wire wire = new Wire().withdraw(TEN, 8).origin(2).way(-7, 6, 5).cost(44).marks(9, 3).announce(-1, 32).announce(1 << 24, 16);
        DomainHouse house = right(check, "all", wire.bytes());
        int[] want = {Check.NONE, 1, 2, 0, 2, 44, 3, 2};
        for (int what = 0; what < want.length; what++) {
            check.due("part " + what, house.part(what), want[what]);
        }
        check.dueRow("WITHDRAWN", i -> house.part(100 + i), TEN);
        check.dueRow("LENGTHS", i -> house.part(200 + i), 8);
        check.dueRow("ANNOUNCED", i -> house.part(300 + i), -1, 1 << 24);
        check.dueRow("LENGTHS", i -> house.part(400 + i), 32, 16);
        check.promise(33, "500 + i the i-th number of the WAY, 600 + i the i-th MARK (as they came),");
        check.dueRow("WAY", i -> house.part(500 + i), -7, 6, 5);
        check.dueRow("MARKS", i -> house.part(600 + i), 9, 3);
        check.promise(33, "NONE: none such,");
        int[] none = {-1, 8, 9, 99, 700, 800, 1000, LEAST, MOST, Check.NONE, -100, -700};
        for (int what : none) {
            check.due("part " + what, house.part(what), Check.NONE);
        }
        check.promise(33, "4, 5: 0 without one.");
        DomainHouse without = right(check, "without", 0, 0, 0, 0);
        check.due("ORIGIN", without.part(4), 0);
        check.due("COST", without.part(5), 0);
        Check.message(house, 0, 0, 0, 0);
        check.due("the latest has no ORIGIN", house.part(4), 0);
        check.due("the latest has no COST", house.part(5), 0);
        check.due("the latest has no WAY", house.part(6), 0);
        check.due("the latest has no MARKS", house.part(7), 0);
    }

    private static void hundredOfEach(Check check) {
        check.promise(33, "(100 of each at most can be asked),");
        Wire wire = good();
        for (int i = 0; i < 120; i++) {
            wire.withdraw(i << 24, 8);
            wire.announce(i << 16 | 1 << 31, 16);
        }
        DomainHouse house = right(check, "120 of each", wire.bytes());
        check.due("WITHDRAWN", house.part(1), 120);
        check.due("ANNOUNCED", house.part(2), 120);
        check.due("the 100th ADDRESS", house.part(199), 99 << 24);
        check.due("the first LENGTH", house.part(200), 8);
        check.due("the 100th LENGTH", house.part(299), 8);
        check.due("the first ADDRESS", house.part(300), 1 << 31);
        check.due("the 100th ADDRESS", house.part(399), 99 << 16 | 1 << 31);
        check.due("the first LENGTH", house.part(400), 16);
        check.due("the 100th LENGTH", house.part(499), 16);
        check.due("the first number", house.part(500), 5);
    }

    private static void noMessage(Check check) {
        check.promise(33, "no MESSAGE, or CLOSE (but 0).");
        DomainHouse house = new DomainHouse();
        int[] parts = {0, 1, 2, 3, 4, 5, 6, 7, 8, 100, 200, 300, 400, 500, 600, 700};
        for (int what : parts) {
            check.due("part " + what, house.part(what), Check.NONE);
        }
        Check.policy(house, "let;");
        check.due("a POLICY is none", house.part(1), Check.NONE);
    }

    // ---- hear and write

    private static void hears(Check check) {
        check.promise(34, "What the latest MESSAGE took (WISH 100) is HEARD by a SIDE over a TIE, as if it arrived now:");
        DomainHouse house = Scene.chain(2);
        house.until(77);
        Wire wire = new Wire().origin(2).way(-1, 9).cost(MOST).marks(9, 3, 65535).announce(TEN, 8);
        check.due("one", Wire.hear(house, 0, 1, wire), 1);
        check.due("now", house.heard(0, 1, 0, 0), 77);
        int[] want = {0, 100, 2, 1000000, 2, 3};
        for (int what = 0; what < want.length; what++) {
            check.due("hand " + what, house.hand(what), want[what]);
        }
        check.dueRow("WAY", i -> house.hand(10 + i), -1, 9);
        check.dueRow("MARKS, the least first", i -> house.hand(100 + i), 3, 9, 65535);
        check.due("the other SIDE has not", house.heard(0, 0, 0, 0), Check.NONE);
        check.due("LOOKED at", house.picked(1, 0), 0);
        check.due("the other SIDE, too", house.hear(0, 0), 1);
        check.due("HEARD", house.heard(0, 0, 0, 0), 77);
        Check.message(house, 0, 0, 0, 0);
        check.due("a MESSAGE of nothing", house.hear(0, 1), 0);
        check.due("HEARD stays", house.heard(0, 1, 0, 0), 77);
    }

    private static void hearsOneByOne(Check check) {
        check.promise(34, "of each WITHDRAWN and then ANNOUNCED one that is one of the PREFIXES, one by one, HEARD and then LOOKED at: how many of them.");
        DomainHouse house = Scene.chain(3);
        house.prefix(11 << 24, 8);
        Wire wire = good().withdraw(TEN, 8).withdraw(TEN, 9).withdraw(11 << 24, 8).announce(TEN, 8).announce(TEN, 7).announce(TEN, 8);
        check.due("of six four are PREFIXES", Wire.hear(house, 0, 1, wire), 4);
        check.due("ANNOUNCED comes last", house.picked(1, 0), 0);
        check.due("WITHDRAWN", house.picked(1, 1), Check.NONE);
        check.due("SAID once", house.count(8), 1);
        house.go(9);
        Wire.hear(house, 0, 1, good().announce(11 << 24, 8));
        check.due("HEARD of PREFIX 1", house.heard(0, 1, 1, 0), 1);
        check.due("its PREFIX", house.hand(0), 1);
        check.due("PICKED of PREFIX 1", house.picked(1, 1), 0);
        check.due("its PREFIX", house.hand(0), 1);
        house.go(9);
        check.due("HEARD on", house.heard(1, 1, 1, 0), 2);
        check.due("its PREFIX", house.hand(0), 1);
        Check.message(house, new Wire().withdraw(TEN, 8).bytes());
        check.due("WITHDRAWN alone", house.hear(0, 1), 1);
        check.due("nothing", house.picked(1, 0), Check.NONE);
        Check.message(house, new Wire().announce(TEN, 8).bytes());
        check.due("WITHDRAWN instead counts, too", house.hear(0, 1), 1);
        Wire other = good().announce(TEN + 1, 8).announce(TEN, 32);
        check.due("bits behind the LENGTH count for nothing, another LENGTH does", Wire.hear(house, 0, 1, other), 1);
        Wire both = good().withdraw(TEN, 8).announce(TEN, 8);
        house.until(100);
        Wire.hear(house, 0, 1, both);
        check.due("one by one: WITHDRAWN, then as before, over TIE 1", house.count(8), 1);
        check.due("SAID at 100", house.heard(1, 0, 0, 1), 100);
    }

    private static void wrongHears(Check check) {
        check.promise(34, "BAD: none such.");
        DomainHouse house = Scene.chain(2);
        Check.message(house, good().announce(TEN, 8).bytes());
        int[][] wrong = {{-1, 0}, {1, 0}, {LEAST, 0}, {MOST, 0}, {0, -1}, {0, 2}, {0, LEAST}, {0, MOST}};
        for (int[] one : wrong) {
            check.due("hear " + java.util.Arrays.toString(one), house.hear(one[0], one[1]), Check.BAD);
        }
        check.due("nothing is HEARD", house.heard(0, 0, 0, 0), Check.NONE);
        DomainHouse none = Scene.chain(2);
        check.due("BAD stands ahead of NO", none.hear(1, 0), Check.BAD);
        check.due("BAD stands ahead of NO", none.hear(0, 2), Check.BAD);
    }

    private static void notNow(Check check) {
        check.promise(34, "NO: no MESSAGE, or CLOSE; the TIE is not UP.");
        DomainHouse house = Scene.chain(2);
        check.due("no MESSAGE", house.hear(0, 0), Check.NO);
        Check.message(house, good().announce(TEN, 8).bytes());
        check.due("one", house.hear(0, 0), 1);
        house.message();
        check.due("the latest is a CLOSE", house.hear(0, 0), Check.NO);
        Check.message(house, good().announce(TEN, 8).bytes());
        house.raise(0, false);
        check.due("the TIE is not UP", house.hear(0, 0), Check.NO);
        check.due("nothing is HEARD", house.heard(0, 0, 0, 0), Check.NONE);
        house.raise(0, true);
        check.due("UP again", house.hear(0, 0), 1);
    }

    private static void written(Check check, DomainHouse house, int tie, int side, int prefix, int... want) {
        check.due("write", house.write(tie, side, prefix), want.length);
        check.dueRow("octet", house::octet, want);
    }

    private static void writes(Check check) {
        check.promise(35, "The MESSAGE for what a SIDE has SAID last over a TIE of a PREFIX is written: how many bytes: with a ROUTE: W 0; "
            + "ORIGIN, WAY (one segment 2; sizes of one byte), COST if it is not 0, MARKS (the least first) if there are some; the PREFIX;");
        DomainHouse house = Scene.chain(3);
        house.prefix(0, 0);
        house.prefix(-1, 32);
        house.announce(0, 1, 2);
        written(check, house, 0, 0, 1, 0, 0, 0, 13, 64, 1, 1, 2, 64, 2, 6, 2, 1, 0, 0, 0, 0, 0);
        house.announce(1, 2, 0);
        written(check, house, 0, 1, 2, 0, 0, 0, 13, 64, 1, 1, 0, 64, 2, 6, 2, 1, 0, 0, 0, 1, 32, 255, 255, 255, 255);
        Wire.hear(house, 0, 1, new Wire().origin(1).way(-1).cost(1).marks(65535, 0).announce(TEN, 8));
        written(check, house, 1, 0, 0, 0, 0, 0, 35, 64, 1, 1, 1, 64, 2, 10, 2, 2, 0, 0, 0, 1, 255, 255, 255, 255,
            128, 4, 4, 0, 0, 0, 1, 192, 8, 8, 0, 0, 0, 0, 0, 0, 255, 255, 8, 10);
        Wire.hear(house, 0, 1, new Wire().origin(0).way().marks(258).announce(TEN, 8));
        written(check, house, 1, 0, 0, 0, 0, 0, 20, 64, 1, 1, 0, 64, 2, 6, 2, 1, 0, 0, 0, 1, 192, 8, 4, 0, 0, 1, 2, 8, 10);
        int[] nineteen = new int[19];
        java.util.Arrays.fill(nineteen, 0x01020304);
        Wire longest = new Wire().origin(1).way(nineteen).cost(1000000).marks(1, 2, 3, 4, 5, 6, 7, 8).announce(-1, 32);
        house.withdraw(1, 2);
        Wire.hear(house, 0, 1, longest);
        check.due("the longest", house.write(1, 0, 2), 4 + 4 + 85 + 7 + 35 + 5);
        check.due("A is its size", house.octet(3), 131);
        check.due("W is 0", house.octet(1), 0);
        check.due("the size of its WAY", house.octet(10), 82);
        check.due("how many", house.octet(12), 20);
        check.due("the last byte", house.octet(139), 255);
        check.due("none behind", house.octet(140), Check.NONE);
    }

    private static void writesNothing(Check check) {
        check.promise(35, "with nothing: it is WITHDRAWN, A 0.");
        DomainHouse house = Scene.chain(2);
        house.prefix(0, 0);
        house.prefix(-1, 32);
        house.prefix(0xC0A80180, 25);
        written(check, house, 0, 0, 0, 0, 2, 8, 10, 0, 0);
        written(check, house, 0, 1, 1, 0, 1, 0, 0, 0);
        written(check, house, 0, 0, 2, 0, 5, 32, 255, 255, 255, 255, 0, 0);
        written(check, house, 0, 0, 3, 0, 5, 25, 192, 168, 1, 128, 0, 0);
        house.announce(0, 0, 0);
        house.raise(0, false);
        written(check, house, 0, 0, 0, 0, 2, 8, 10, 0, 0);
    }

    private static void wrongWrites(Check check) {
        check.promise(35, "BAD: none such.");
        DomainHouse house = Scene.chain(2);
        house.write(0, 0, 0);
        int[][] wrong = {
            {-1, 0, 0}, {1, 0, 0}, {LEAST, 0, 0}, {MOST, 0, 0}, {0, -1, 0}, {0, 2, 0}, {0, LEAST, 0}, {0, MOST, 0}, {0, 0, -1}, {0, 0, 1},
            {0, 0, LEAST}, {0, 0, MOST},
        };
        for (int[] one : wrong) {
            check.due("write " + java.util.Arrays.toString(one), house.write(one[0], one[1], one[2]), Check.BAD);
        }
        check.dueRow("what was written latest stays", house::octet, 0, 2, 8, 10, 0, 0);
    }

    private static void octets(Check check) {
        check.promise(36, "Byte i (0 .. 255) of what was written latest; NONE: none such.");
        DomainHouse house = Scene.chain(2);
        check.due("nothing was written", house.octet(0), Check.NONE);
        house.announce(0, 0, 0);
        house.write(0, 0, 0);
        house.write(0, 1, 0);
        check.dueRow("the latest, a shorter one", house::octet, 0, 2, 8, 10, 0, 0);
        int[] none = {-1, 6, 255, 256, LEAST, MOST};
        for (int i : none) {
            check.due("octet " + i, house.octet(i), Check.NONE);
        }
        Check.message(house, good().bytes());
        check.due("message() writes nothing", house.octet(1), 2);
    }
}
