/** The edges of promises 1, 2, 3 and 49: a new object, the tape, what is counted. */
public final class EdgesOfTapeTest {
    private static final int LEAST = Integer.MIN_VALUE;
    private static final int MOST = Integer.MAX_VALUE;

    public static void main(String[] args) {
        Check check = new Check("EdgesOfTapeTest");
        nothingIsThere(check);
        clockAndDay(check);
        highestFirst(check);
        behindTheTape(check);
        moreThanAThousand(check);
        keepsTheFirst(check);
        cutBelowAndAbove(check);
        counts(check);
        countsOfAFullHouse(check);
        anotherWhat(check);
        check.end();
    }

    private static void nothingIsThere(Check check) {
        check.promise(1, "Nothing is there;");
        DomainHouse house = new DomainHouse();
        for (int what = 0; what <= 11; what++) {
            check.due("count " + what, house.count(what), 0);
        }
        check.due("no byte", house.cut(1), Check.BAD);
        check.due("no domain", house.cone(0, -1), Check.BAD);
        check.due("no tie", house.raise(0, true), Check.BAD);
        check.due("no ring", house.ring(0), Check.NONE);
        check.due("no right", house.strike(0, 0), Check.BAD);
        check.due("no prefix", house.verdict(0, 0, 0, 0), Check.BAD);
        check.due("no fault", house.fault(), 0);
        check.due("no route in hand", house.hand(0), Check.NONE);
        check.due("no event", house.go(500), 0);
        check.due("no message", house.part(0), Check.NONE);
        check.due("nothing written", house.octet(0), Check.NONE);
        check.due("no letter", house.led(0), Check.NONE);
        for (int what = 0; what <= 2; what++) {
            check.due("no units", house.units(what), 0);
        }
        check.due("nothing is wished", house.clear(), 0);
        check.due("an empty text is a policy, the first one", house.policy(), 0);
    }

    private static void clockAndDay(Check check) {
        check.promise(1, "THE CLOCK and TODAY are 0.");
        DomainHouse house = new DomainHouse();
        check.due("clock", house.count(7), 0);
        check.due("day", house.count(11), 0);
        check.due("until 0 is not below the clock", house.until(0), 0);
        check.due("what the day was", house.today(1), 0);
        DomainHouse other = new DomainHouse();
        check.due("each object has its own day", other.count(11), 0);
    }

    /** Read back as three withdrawn prefixes of 32 bits. */
    private static void withdrawn(Check check, DomainHouse house, int... addresses) {
        check.due("message", house.message(), 0);
        check.due("how many", house.part(1), addresses.length);
        for (int i = 0; i < addresses.length; i++) {
            check.due("address " + i, house.part(100 + i), addresses[i]);
        }
    }

    private static void highestFirst(Check check) {
        check.promise(2, "Twenty bytes come behind the TAPE, of each number the highest first: how many it has.");
        DomainHouse house = new DomainHouse();
        check.due("feed", house.feed(0x000F20FE, 0xDCBA9820, 0x80000001, 0x207FFFFF, 0xFF000055), 20);
        check.due("one of them less", house.cut(19), 20);
        withdrawn(check, house, 0xFEDCBA98, 0x80000001, 0x7FFFFFFF);
        check.due("numbers below 0, too", house.feed(-1, LEAST, MOST, 0, 1), 20);
        check.due("the highest bytes of -1 are a length that is too great", house.message(), 1);
        check.due("at W", house.part(0), 0);
    }

    private static void behindTheTape(Check check) {
        check.promise(2, "Twenty bytes come behind the TAPE, of each number the highest first: how many it has.");
        DomainHouse house = new DomainHouse();
        house.feed(0x00052001, 0x020304FF, 0, 0, 0);
        check.due("seven stay", house.cut(7), 20);
        check.due("behind these seven", house.feed(0, 0, 0, 0, 0), 27);
        house.cut(9);
        withdrawn(check, house, 0x01020304);
    }

    private static void moreThanAThousand(Check check) {
        check.promise(2, "FULL: more than 1000.");
        DomainHouse house = new DomainHouse();
        house.feed(0x03E40000, 0, 0, 0, 0);
        for (int i = 2; i <= 50; i++) {
            check.due("feed " + i, house.feed(0, 0, 0, 0, 0), 20 * i);
        }
        check.due("the 1001st byte", house.feed(-1, -1, -1, -1, -1), Check.FULL);
        check.due("still 1000", house.count(6), 1000);
        check.due("cut to 981", house.cut(981), 1000);
        check.due("981 and 20", house.feed(-1, -1, -1, -1, -1), Check.FULL);
        check.due("still 981", house.count(6), 981);
        check.due("cut to 980", house.cut(980), 981);
        check.due("980 and 20", house.feed(0, 0, 0, 0, 0), 1000);
        check.due("what was refused left no byte behind", house.message(), 0);
        check.due("996 of length 0", house.part(1), 996);
    }

    private static void keepsTheFirst(Check check) {
        check.promise(3, "The TAPE keeps its first n bytes: how many it had.");
        DomainHouse house = new DomainHouse();
        check.due("an empty one keeps none", house.cut(0), 0);
        house.feed(0x00052001, 0x02030400, 0x00FFFFFF, -1, -1);
        check.due("all of them", house.cut(20), 20);
        check.due("all but one", house.cut(19), 20);
        check.due("the first nine", house.cut(9), 19);
        check.due("nine", house.count(6), 9);
        withdrawn(check, house, 0x01020304);
        house.feed(0, 0, 0, 0, 0);
        check.due("none of them", house.cut(0), 20);
        check.due("none", house.count(6), 0);
        check.due("an empty tape is no message", house.message(), 1);
    }

    private static void cutBelowAndAbove(Check check) {
        check.promise(3, "BAD: n is below 0, or more.");
        DomainHouse house = new DomainHouse();
        int[] wrong = {-1, LEAST, 1, MOST};
        for (int n : wrong) {
            check.due("empty, cut " + n, house.cut(n), Check.BAD);
        }
        house.feed(1, 2, 3, 4, 5);
        int[] more = {-1, LEAST, 21, 1000, 1001, MOST};
        for (int n : more) {
            check.due("20 bytes, cut " + n, house.cut(n), Check.BAD);
            check.due("they stay", house.count(6), 20);
        }
        for (int i = 0; i < 49; i++) {
            house.feed(0, 0, 0, 0, 0);
        }
        check.due("cut 1001", house.cut(1001), Check.BAD);
        check.due("cut 1000", house.cut(1000), 1000);
    }

    /** Each number is another one, so that none can stand for its neighbour. */
    private static void counts(Check check) {
        check.promise(49, "How many: 0 PREFIXES, 1 DOMAINS, 2 TIES, 3 RIGHTS, 4 POLICIES, 5 DEMANDS, 6 bytes of the TAPE, "
            + "7 THE CLOCK, 8 EVENTS that are to come, 9 EVENTS done in all, 10 THE WAY IN HAND, 11 TODAY.");
        DomainHouse house = new DomainHouse();
        for (int i = 0; i < 5; i++) {
            house.prefix(i << 24, 8);
        }
        Check.domains(house, 8);
        for (int i = 1; i < 8; i++) {
            house.tie(0, i, 0);
        }
        for (int i = 0; i < 9; i++) {
            house.right(0, 8, 0, 0, 1, 0);
        }
        for (int i = 0; i < 10; i++) {
            Check.policy(house, "let;");
        }
        for (int i = 0; i < 11; i++) {
            house.demand(0, 0, 1);
        }
        house.feed(0, 0, 0, 0, 0);
        house.cut(12);
        Check.walk(house, 0, 0, 0, 0, 0, 0, 0, 0, 0, 0, 0, 0, 0);
        house.until(40);
        house.today(14);
        house.announce(0, 0, 0);
        house.go(1);
        int[] want = {5, 8, 7, 9, 10, 11, 12, 41, 6, 1, 13, 14};
        for (int what = 0; what < want.length; what++) {
            check.due("count " + what, house.count(what), want[what]);
        }
        house.until(41);
        check.due("those done by until count, too", house.count(9), 7);
        check.due("none is to come", house.count(8), 0);
    }

    private static void countsOfAFullHouse(Check check) {
        check.promise(49, "How many: 0 PREFIXES, 1 DOMAINS, 2 TIES, 3 RIGHTS, 4 POLICIES, 5 DEMANDS, 6 bytes of the TAPE,");
        DomainHouse house = Scene.full();
        int[] want = {10, 10, 20, 30, 12, 16, 1000};
        for (int what = 0; what < want.length; what++) {
            check.due("count " + what, house.count(what), want[what]);
        }
        check.due("way", house.count(10), 20);
        check.promise(49, "7 THE CLOCK, 8 EVENTS that are to come, 9 EVENTS done in all, 10 THE WAY IN HAND, 11 TODAY.");
        DomainHouse late = new DomainHouse();
        late.until(1000000000);
        late.today(MOST);
        check.due("the latest clock that can be told", late.count(7), 1000000000);
        check.due("the last day", late.count(11), MOST);
    }

    private static void anotherWhat(Check check) {
        check.promise(49, "BAD: another what.");
        DomainHouse house = Scene.full();
        int[] wrong = {-1, 12, 100, LEAST, MOST, Check.NONE};
        for (int what : wrong) {
            check.due("count " + what, house.count(what), Check.BAD);
        }
    }
}
