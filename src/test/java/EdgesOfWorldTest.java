/** The edges of promises 4 to 12 and of part 1 of the terms: prefixes, domains, ties, cones, rings, ways. */
public final class EdgesOfWorldTest {
    private static final int LEAST = Integer.MIN_VALUE;
    private static final int MOST = Integer.MAX_VALUE;
    private static final int PATTERN = 0xA5C3E187;
    private static final int PROVIDER = 0;
    private static final int EQUALS = 1;
    private static final int KIN = 2;

    public static void main(String[] args) {
        Check check = new Check("EdgesOfWorldTest");
        lengths(check);
        bitsBehind(check);
        prefixIsThere(check);
        tenPrefixes(check);
        heldAddresses(check);
        heldAddressesAtTheEnds(check);
        heldPrefixes(check);
        tenDomains(check);
        newTie(check);
        nothingIsSaidByATie(check);
        wrongTies(check);
        oneTieBetweenTwo(check);
        twentyTies(check);
        sides(check);
        paceAtItsEdges(check);
        wrongPaces(check);
        paceFromNowOn(check);
        falls(check);
        comesBack(check);
        isSoAlready(check);
        cones(check);
        wrongCones(check);
        noRing(check);
        ringsOfThreeAndTen(check);
        whichRing(check);
        ringOverAllTies(check);
        wayInHand(check);
        wayIsFull(check);
        shortWays(check);
        wrongSteps(check);
        kinLeftOut(check);
        lastStepOfTwenty(check);
        check.end();
    }

    private static int maskOf(int length) {
        return length == 0 ? 0 : -1 << 32 - length;
    }

    // ---- prefixes

    private static void lengths(Check check) {
        check.term(1, "PREFIXES (10) have an ADDRESS (32 bits, as an int) and a LENGTH 0 .. 32;");
        check.promise(4, "A PREFIX: its number. BAD: length,");
        int[] wrong = {-1, 33, 64, LEAST, MOST, -32, 256, 264};
        DomainHouse house = new DomainHouse();
        for (int length : wrong) {
            check.due("length " + length, house.prefix(0, length), Check.BAD);
        }
        check.due("none came", house.count(0), 0);
        check.due("length 0", house.prefix(0, 0), 0);
        check.due("length 32", house.prefix(-1, 32), 1);
        check.due("length 31", house.prefix(-2, 31), 2);
        check.due("length 1", house.prefix(LEAST, 1), 3);
    }

    private static void bitsBehind(Check check) {
        check.term(1, "bits of the ADDRESS behind the LENGTH are 0.");
        check.promise(4, "or bits behind it.");
        for (int length = 0; length <= 32; length++) {
            DomainHouse house = new DomainHouse();
            if (length < 32) {
                check.due("the first bit behind " + length, house.prefix(1 << 31 - length, length), Check.BAD);
                check.due("the last bit behind " + length, house.prefix(1, length), Check.BAD);
                check.due("all and one behind " + length, house.prefix(maskOf(length + 1), length), Check.BAD);
            }
            check.due("all bits of " + length, house.prefix(maskOf(length), length), 0);
            if (length > 0) {
                check.due("the last bit of " + length, house.prefix(1 << 32 - length, length), length == 1 ? Check.NO : 1);
            }
        }
    }

    private static void prefixIsThere(Check check) {
        check.promise(4, "NO: it is there.");
        DomainHouse house = new DomainHouse();
        house.prefix(0, 0);
        house.prefix(0, 32);
        check.due("0/0", house.prefix(0, 0), Check.NO);
        check.due("0/32", house.prefix(0, 32), Check.NO);
        check.due("the same address, another length", house.prefix(0, 31), 2);
        check.due("the same length, another address", house.prefix(1, 32), 3);
        check.due("BAD stands first", house.prefix(0, 33), Check.BAD);
        check.due("four", house.count(0), 4);
    }

    private static void tenPrefixes(Check check) {
        check.term(1, "PREFIXES (10)");
        check.promise(4, "FULL.");
        DomainHouse house = new DomainHouse();
        for (int i = 0; i < 10; i++) {
            check.due("prefix", house.prefix(i << 28, 4), i);
        }
        check.due("the eleventh", house.prefix(10 << 28, 4), Check.FULL);
        check.due("NO stands ahead of it", house.prefix(9 << 28, 4), Check.NO);
        check.due("BAD stands ahead of it", house.prefix(11 << 28, 3), Check.BAD);
        check.due("ten", house.count(0), 10);
        check.due("the tenth is there", house.verdict(9, 0, 0, 0), 2);
        check.due("the eleventh is not", house.verdict(10, 0, 0, 0), Check.BAD);
    }

    /** A letter arrives where the one prefix that is there holds its address. */
    private static DomainHouse holding(int address, int length) {
        DomainHouse house = new DomainHouse();
        house.domain();
        house.prefix(address, length);
        house.announce(0, 0, 0);
        return house;
    }

    private static void heldAddresses(Check check) {
        check.term(1, "One HOLDS an address, if their first LENGTH bits are alike;");
        for (int length = 1; length <= 32; length++) {
            int first = PATTERN & maskOf(length);
            int last = first | ~maskOf(length);
            DomainHouse house = holding(first, length);
            check.due("the first address of " + length, house.letter(0, first), 0);
            check.due("the last address of " + length, house.letter(0, last), 0);
            check.due("one below " + length, house.letter(0, first - 1), 1);
            check.due("one above " + length, house.letter(0, last + 1), 1);
            check.due("its last bit turned, " + length, house.letter(0, first ^ 1 << 32 - length), 1);
            check.due("its first bit turned, " + length, house.letter(0, first ^ LEAST), 1);
        }
    }

    private static void heldAddressesAtTheEnds(Check check) {
        check.term(1, "One HOLDS an address, if their first LENGTH bits are alike;");
        DomainHouse all = holding(0, 0);
        int[] ends = {0, 1, -1, LEAST, MOST, -2};
        for (int address : ends) {
            check.due("LENGTH 0 holds " + address, all.letter(0, address), 0);
        }
        DomainHouse high = holding(LEAST, 1);
        check.due("the high half begins", high.letter(0, LEAST), 0);
        check.due("the high half ends", high.letter(0, -1), 0);
        check.due("the low half ends", high.letter(0, MOST), 1);
        check.due("the low half begins", high.letter(0, 0), 1);
        DomainHouse last = holding(-1, 32);
        check.due("the last address", last.letter(0, -1), 0);
        check.due("the one ahead of it", last.letter(0, -2), 1);
        check.due("the one behind it is the first", last.letter(0, 0), 1);
    }

    /** A right on a prefix touches the verdict on what it holds: 0 or 1, and 2 on what it doesn't. */
    private static void heldPrefixes(Check check) {
        check.term(1, "it HOLDS another PREFIX, if its LENGTH is that one's or less and it HOLDS that one's ADDRESS.");
        for (int length = 1; length <= 31; length++) {
            int address = PATTERN & maskOf(length);
            DomainHouse house = new DomainHouse();
            house.domain();
            house.prefix(address, length);
            house.prefix(address & maskOf(length - 1), length - 1);
            house.prefix(address, length + 1);
            house.prefix(address ^ 1 << 32 - length, length);
            house.prefix(address ^ 1 << 32 - length, length + 1);
            house.prefix(address | ~maskOf(length), 32);
            house.right(0, 32, 0, 0, 1, 0);
            int[] want = {1, 2, 1, 2, 2, 1};
            for (int p = 0; p < house.count(0); p++) {
                check.due("right on " + length + ", prefix " + p, house.verdict(p, 0, 0, 0), want[p]);
            }
        }
        DomainHouse house = new DomainHouse();
        house.domain();
        house.prefix(0, 0);
        house.prefix(-1, 32);
        house.prefix(0, 1);
        house.right(0, 32, 0, 0, 1, 0);
        for (int p = 0; p < 3; p++) {
            check.due("LENGTH 0 holds all, prefix " + p, house.verdict(p, 0, 0, 0), 1);
        }
    }

    // ---- domains and ties

    private static void tenDomains(Check check) {
        check.term(1, "DOMAINS (10).");
        check.promise(5, "A DOMAIN: its number. FULL.");
        DomainHouse house = new DomainHouse();
        for (int i = 0; i < 10; i++) {
            check.due("not there yet", house.cone(i, -1), Check.BAD);
            check.due("domain", house.domain(), i);
            check.due("there", house.cone(i, -1), 1);
        }
        check.due("the eleventh", house.domain(), Check.FULL);
        check.due("and again", house.domain(), Check.FULL);
        check.due("ten", house.count(1), 10);
        check.due("no eleventh", house.cone(10, -1), Check.BAD);
    }

    private static void newTie(Check check) {
        check.promise(6, "A TIE, UP, with DELAY 1 and GAP 0, without POLICIES: its number.");
        check.term(1, "it is UP (at first) or not; it has a DELAY and a GAP.");
        DomainHouse house = Scene.chain(2);
        house.announce(0, 0, 0);
        house.announce(0, 0, 1);
        check.due("GAP 0: nothing waits, what was under way is gone", house.count(8), 1);
        check.due("UP: it arrives", house.go(9), 1);
        check.due("DELAY 1", house.count(7), 1);
        check.due("let without POLICIES", house.picked(1, 0), 0);
        check.due("as it was said", house.hand(5), 0);
        check.due("it was UP", house.raise(0, false), 1);
    }

    private static void nothingIsSaidByATie(Check check) {
        check.promise(6, "(Nothing is SAID over it by that: both do so when something changes, or by raise().)");
        DomainHouse house = new DomainHouse();
        house.prefix(0, 0);
        Check.domains(house, 2);
        house.announce(0, 0, 0);
        house.tie(0, 1, PROVIDER);
        check.due("nothing", house.count(8), 0);
        check.due("SAID last is nothing", house.heard(0, 0, 0, 1), Check.NONE);
        house.announce(0, 0, 1);
        check.due("something changes", house.count(8), 1);
        DomainHouse other = new DomainHouse();
        other.prefix(0, 0);
        Check.domains(other, 2);
        other.announce(1, 0, 0);
        other.tie(0, 1, PROVIDER);
        other.raise(0, true);
        check.due("by raise(), the other SIDE, too", other.count(8), 1);
    }

    private static void wrongTies(Check check) {
        check.promise(6, "BAD: no such DOMAINS, or they are one; no KIND.");
        check.term(1, "of KIND 0: a is a PROVIDER of b, and b a CUSTOMER of a; 1: they are EQUALS; 2: KIN.");
        DomainHouse house = new DomainHouse();
        Check.domains(house, 3);
        int[][] wrong = {
            {-1, 0, 0}, {0, -1, 0}, {3, 0, 0}, {0, 3, 0}, {LEAST, 0, 0}, {0, MOST, 0}, {-1, -1, 0}, {0, 0, 0}, {2, 2, 1},
            {0, 1, -1}, {0, 1, 3}, {0, 1, LEAST}, {0, 1, MOST}, {3, 3, 3},
        };
        for (int[] one : wrong) {
            check.due("tie " + java.util.Arrays.toString(one), house.tie(one[0], one[1], one[2]), Check.BAD);
        }
        check.due("none", house.count(2), 0);
        check.due("KIND 0", house.tie(0, 1, 0), 0);
        check.due("KIND 1", house.tie(1, 2, 1), 1);
        check.due("KIND 2", house.tie(2, 0, 2), 2);
        check.due("b is in the cone of a", house.cone(0, 1), 1);
        check.due("a is not in that of b", house.cone(1, 0), 0);
    }

    private static void oneTieBetweenTwo(Check check) {
        check.promise(6, "NO: they have one.");
        check.term(1, "TIES (20) are between two DOMAINS a and b, one at most between two:");
        DomainHouse house = new DomainHouse();
        Check.domains(house, 3);
        house.tie(0, 1, PROVIDER);
        for (int kind = 0; kind <= 2; kind++) {
            check.due("again", house.tie(0, 1, kind), Check.NO);
            check.due("the other way round", house.tie(1, 0, kind), Check.NO);
        }
        house.raise(0, false);
        check.due("one that is down is one, too", house.tie(0, 1, PROVIDER), Check.NO);
        check.due("BAD stands ahead of NO", house.tie(0, 1, 3), Check.BAD);
        check.due("one", house.count(2), 1);
        check.due("others have none", house.tie(0, 2, PROVIDER), 1);
    }

    private static void twentyTies(Check check) {
        check.promise(6, "FULL.");
        check.term(1, "TIES (20)");
        DomainHouse house = new DomainHouse();
        Check.domains(house, 10);
        for (int i = 0; i < 20; i++) {
            check.due("tie", house.tie(i % 10, (i + 1 + i / 10) % 10, i % 3), i);
        }
        check.due("the 21st", house.tie(0, 5, EQUALS), Check.FULL);
        check.due("NO stands ahead of it", house.tie(1, 0, EQUALS), Check.NO);
        check.due("BAD stands ahead of it", house.tie(5, 5, EQUALS), Check.BAD);
        check.due("20", house.count(2), 20);
        check.due("the last one is there", house.pace(19, 1, 0), 0);
        check.due("the 21st is not", house.pace(20, 1, 0), Check.BAD);
    }

    private static void sides(Check check) {
        check.term(1, "A TIE has SIDES 0 (a), 1 (b);");
        DomainHouse house = new DomainHouse();
        house.prefix(0, 0);
        Check.domains(house, 2);
        house.tie(1, 0, PROVIDER);
        house.announce(1, 0, 0);
        check.due("a has SAID", house.heard(0, 0, 0, 1), 0);
        check.due("b has not", house.heard(0, 1, 0, 1), Check.NONE);
        house.go(1);
        check.due("b has HEARD", house.heard(0, 1, 0, 0), 1);
        check.due("a has not", house.heard(0, 0, 0, 0), Check.NONE);
        check.due("no SIDE 2", house.heard(0, 2, 0, 0), Check.BAD);
        check.due("no SIDE -1", house.heard(0, -1, 0, 0), Check.BAD);
    }

    // ---- pace and raise

    private static void paceAtItsEdges(Check check) {
        check.promise(7, "DELAY and GAP from now on: 0.");
        int[][] right = {{1, 0}, {1000, 0}, {1, 1000}, {1000, 1000}};
        for (int[] one : right) {
            DomainHouse house = Scene.chain(2);
            check.due("pace", house.pace(0, one[0], one[1]), 0);
            house.announce(0, 0, 0);
            house.go(1);
            check.due("DELAY " + one[0], house.count(7), one[0]);
            int gapEnds = Math.max(one[0], one[1]);
            house.announce(0, 0, 1);
            house.go(2);
            check.due("GAP " + one[1], house.count(7), gapEnds + one[0]);
        }
    }

    private static void wrongPaces(Check check) {
        check.promise(7, "BAD: no such TIE; delay is not 1 .. 1000, gap not 0 .. 1000.");
        DomainHouse house = Scene.chain(2);
        house.pace(0, 5, 0);
        int[][] wrong = {
            {-1, 1, 0}, {1, 1, 0}, {LEAST, 1, 0}, {MOST, 1, 0}, {0, 0, 7}, {0, 1001, 7}, {0, -1, 7}, {0, LEAST, 7},
            {0, MOST, 7}, {0, 9, -1}, {0, 9, 1001}, {0, 9, LEAST}, {0, 9, MOST},
        };
        for (int[] one : wrong) {
            check.due("pace " + java.util.Arrays.toString(one), house.pace(one[0], one[1], one[2]), Check.BAD);
        }
        house.announce(0, 0, 0);
        house.announce(0, 0, 1);
        check.due("the GAP is still 0", house.count(8), 1);
        house.go(1);
        check.due("the DELAY is still 5", house.count(7), 5);
    }

    private static void paceFromNowOn(Check check) {
        check.promise(7, "DELAY and GAP from now on: 0.");
        DomainHouse house = Scene.chain(2);
        house.pace(0, 50, 20);
        house.announce(0, 0, 0);
        house.announce(0, 0, 1);
        house.pace(0, 1000, 0);
        check.due("the wait is as it was", house.go(1), 1);
        check.due("at", house.count(7), 20);
        check.due("but what it SAYS has the new DELAY", house.go(1), 1);
        check.due("at", house.count(7), 1020);
    }

    private static void falls(Check check) {
        check.promise(8, "A TIE falls (up false), or comes back: 1 if it was UP, else 0");
        DomainHouse house = Scene.chain(2);
        house.announce(0, 0, 0);
        house.go(1);
        check.due("it was UP", house.raise(0, false), 1);
        check.due("nothing is HEARD", house.heard(0, 1, 0, 0), Check.NONE);
        check.due("nothing is SAID", house.heard(0, 0, 0, 1), Check.NONE);
        check.due("1 has looked", house.picked(1, 0), Check.NONE);
        check.due("it was not UP", house.raise(0, true), 0);
        check.due("it was UP", house.raise(0, true), 1);
        check.promise(8, "BAD: none such.");
        int[] wrong = {-1, 1, 20, LEAST, MOST};
        for (int tie : wrong) {
            check.due("up " + tie, house.raise(tie, true), Check.BAD);
            check.due("down " + tie, house.raise(tie, false), Check.BAD);
        }
        check.due("it is still UP", house.raise(0, false), 1);
    }

    private static void comesBack(Check check) {
        check.promise(8, "A TIE falls (up false), or comes back: 1 if it was UP, else 0");
        DomainHouse house = Scene.chain(2);
        house.pace(0, 1, 1000);
        house.announce(0, 0, 0);
        house.raise(0, false);
        check.due("its events are gone", house.count(8), 0);
        check.due("comes back", house.raise(0, true), 0);
        check.due("when it was SAID is gone, so that no GAP counts", house.go(9), 1);
        check.due("at", house.count(7), 1);
    }

    private static void isSoAlready(Check check) {
        check.promise(8, "(nothing is done if it is so already, but that one that is UP SAYS all likewise).");
        DomainHouse house = new DomainHouse();
        house.prefix(0, 0);
        house.prefix(0, 1);
        Check.domains(house, 2);
        house.announce(0, 0, 0);
        house.announce(1, 1, 0);
        house.tie(0, 1, PROVIDER);
        check.due("UP already", house.raise(0, true), 1);
        check.due("both have SAID all", house.count(8), 2);
        check.due("UP already", house.raise(0, true), 1);
        check.due("nothing new", house.count(8), 2);
        house.raise(0, false);
        check.due("down already", house.raise(0, false), 0);
        check.due("down already", house.raise(0, false), 0);
        check.due("nothing", house.count(8), 0);
    }

    // ---- cone and ring

    private static void cones(Check check) {
        check.promise(9, "How many DOMAINS are in THE CONE of a DOMAIN (other -1); whether another one is: 1, 0.");
        check.term(1, "THE CONE of a DOMAIN (TIES UP or not): it, its CUSTOMERS, theirs, and so on.");
        DomainHouse house = new DomainHouse();
        Check.domains(house, 10);
        for (int i = 9; i > 0; i--) {
            house.tie(i, i - 1, PROVIDER);
        }
        for (int d = 0; d < 10; d++) {
            check.due("cone of " + d, house.cone(d, -1), d + 1);
            check.due("it is in its own", house.cone(d, d), 1);
            check.due("the lowest is in all", house.cone(d, 0), 1);
            check.due("the highest in its own alone", house.cone(d, 9), d == 9 ? 1 : 0);
        }
        for (int t = 0; t < 9; t++) {
            house.raise(t, false);
        }
        check.due("TIES that are down count", house.cone(9, -1), 10);
        house.tie(0, 9, PROVIDER);
        check.due("a ring: all are in each", house.cone(0, -1), 10);
        DomainHouse flat = new DomainHouse();
        Check.domains(flat, 3);
        flat.tie(0, 1, EQUALS);
        flat.tie(0, 2, KIN);
        check.due("EQUALS and KIN are not in it", flat.cone(0, -1), 1);
    }

    private static void wrongCones(Check check) {
        check.promise(9, "BAD: none such.");
        DomainHouse house = new DomainHouse();
        check.due("no DOMAINS", house.cone(0, -1), Check.BAD);
        Check.domains(house, 2);
        int[][] wrong = {{-1, -1}, {2, -1}, {-1, 0}, {2, 0}, {0, -2}, {0, 2}, {LEAST, -1}, {0, MOST}, {0, LEAST}, {MOST, 0}};
        for (int[] one : wrong) {
            check.due("cone " + java.util.Arrays.toString(one), house.cone(one[0], one[1]), Check.BAD);
        }
        check.due("the last ones", house.cone(1, 1), 1);
        check.due("the last ones", house.cone(1, 0), 0);
    }

    private static void noRing(Check check) {
        check.promise(10, "NONE: there is no RING, or not so many.");
        DomainHouse house = new DomainHouse();
        check.due("no DOMAINS", house.ring(0), Check.NONE);
        Check.domains(house, 3);
        check.due("no TIES", house.ring(0), Check.NONE);
        house.tie(0, 1, PROVIDER);
        house.tie(1, 2, PROVIDER);
        check.due("a chain", house.ring(0), Check.NONE);
        house.tie(0, 2, PROVIDER);
        check.due("two ways down", house.ring(0), Check.NONE);
        DomainHouse equals = new DomainHouse();
        Check.domains(equals, 3);
        equals.tie(0, 1, PROVIDER);
        equals.tie(1, 2, PROVIDER);
        equals.tie(2, 0, EQUALS);
        check.due("one TIE of EQUALS in it", equals.ring(0), Check.NONE);
    }

    private static void ringsOfThreeAndTen(Check check) {
        check.promise(10, "The i-th DOMAIN of THE RING; NONE: there is no RING, or not so many.");
        check.term(1, "A RING: DOMAINS of which each is a PROVIDER of the next one, and the last of the first one:");
        for (int n = 3; n <= 10; n += 7) {
            DomainHouse house = new DomainHouse();
            Check.domains(house, n);
            for (int i = 0; i < n; i++) {
                house.tie(i, (i + 1) % n, PROVIDER);
            }
            int[] want = new int[n];
            for (int i = 0; i < n; i++) {
                want[i] = i;
            }
            check.dueRow("ring of " + n, house::ring, want);
            int[] none = {-1, n, n + 1, LEAST, MOST};
            for (int i : none) {
                check.due("place " + i, house.ring(i), Check.NONE);
            }
        }
    }

    private static DomainHouse tied(int... ends) {
        DomainHouse house = new DomainHouse();
        Check.domains(house, 10);
        for (int i = 0; i + 1 < ends.length; i += 2) {
            house.tie(ends[i], ends[i + 1], PROVIDER);
        }
        return house;
    }

    private static void whichRing(Check check) {
        check.term(1, "that with the least DOMAIN that is in any, of these the shortest, from that DOMAIN on;");
        DomainHouse least = tied(9, 8, 8, 7, 7, 9, 1, 6, 6, 5, 5, 4, 4, 1);
        check.dueRow("the least DOMAIN, though longer", least::ring, 1, 6, 5, 4);
        DomainHouse shortest = tied(0, 1, 1, 2, 2, 3, 3, 0, 2, 0);
        check.dueRow("the shortest, though its DOMAINS are not lesser", shortest::ring, 0, 1, 2);
        DomainHouse shorter = tied(0, 1, 1, 2, 2, 3, 3, 0, 0, 9, 9, 8, 8, 0);
        check.dueRow("the shortest, though greater ones", shorter::ring, 0, 9, 8);
        DomainHouse within = tied(0, 5, 5, 6, 6, 7, 7, 5);
        check.dueRow("the least DOMAIN is above the ring, not in it", within::ring, 5, 6, 7);
        DomainHouse from = tied(7, 3, 3, 5, 5, 7);
        check.dueRow("from the least one on", from::ring, 3, 5, 7);
        check.term(1, "of like ones by DOMAINS, the lesser one first.");
        DomainHouse second = tied(0, 9, 9, 1, 1, 0, 0, 2, 2, 8, 8, 0);
        check.dueRow("the second DOMAIN decides", second::ring, 0, 2, 8);
        DomainHouse third = tied(0, 4, 4, 9, 9, 0, 4, 7, 7, 0);
        check.dueRow("the third one", third::ring, 0, 4, 7);
    }

    private static void ringOverAllTies(Check check) {
        check.term(1, "A RING: DOMAINS of which each is a PROVIDER of the next one, and the last of the first one:");
        DomainHouse house = tied(0, 1, 1, 2, 2, 0);
        for (int t = 0; t < 3; t++) {
            house.raise(t, false);
        }
        check.dueRow("a PROVIDER is one while its TIE is down, too", house::ring, 0, 1, 2);
    }

    // ---- ways

    private static void wayInHand(Check check) {
        check.promise(11, "A number 0 .. 9 (of a DOMAIN, there or not) comes behind THE WAY IN HAND (-1: it is empty then): how many it has.");
        DomainHouse house = new DomainHouse();
        check.due("0, not there", house.walk(0), 1);
        check.due("9, not there", house.walk(9), 2);
        house.domain();
        check.due("0, there", house.walk(0), 3);
        check.due("empty then", house.walk(-1), 0);
        check.due("and again", house.walk(-1), 0);
        check.due("the first again", house.walk(5), 1);
        check.promise(11, "BAD: another number.");
        int[] wrong = {-2, 10, LEAST, MOST, Check.NONE};
        for (int number : wrong) {
            check.due("walk " + number, house.walk(number), Check.BAD);
            check.due("it stays", house.count(10), 1);
        }
    }

    private static void wayIsFull(Check check) {
        check.promise(11, "FULL.");
        check.term(1, "THE WAY IN HAND (20 numbers at most) is a row of DOMAINS.");
        DomainHouse house = new DomainHouse();
        for (int i = 1; i <= 20; i++) {
            check.due("number " + i, house.walk(i % 10), i);
        }
        check.due("the 21st", house.walk(1), Check.FULL);
        check.due("BAD stands ahead of it", house.walk(10), Check.BAD);
        check.due("BAD stands ahead of it", house.walk(-2), Check.BAD);
        check.due("20", house.count(10), 20);
        house.prefix(0, 0);
        house.route(0, 0, 0, 0);
        check.due("the last is the 20th", house.hand(29), 0);
        check.due("the one ahead of it", house.hand(28), 9);
        check.due("none behind", house.hand(30), Check.NONE);
        check.due("-1 is never refused", house.walk(-1), 0);
        check.due("what was the route's stays", house.hand(4), 20);
    }

    /** 0 is below 1, 1 below 2; 2 and 3 are equals, 3 and 4, too; 4 is above 5; 1 and 6 are kin, 6 is below 7. */
    private static DomainHouse hill() {
        DomainHouse house = new DomainHouse();
        Check.domains(house, 8);
        house.tie(1, 0, PROVIDER);
        house.tie(2, 1, PROVIDER);
        house.tie(2, 3, EQUALS);
        house.tie(3, 4, EQUALS);
        house.tie(4, 5, PROVIDER);
        house.tie(1, 6, KIN);
        house.tie(7, 6, PROVIDER);
        house.tie(3, 5, PROVIDER);
        return house;
    }

    private static void way(Check check, DomainHouse house, int want, int... numbers) {
        Check.walk(house, numbers);
        check.due("way " + java.util.Arrays.toString(numbers), house.letWay(), want);
    }

    private static void shortWays(Check check) {
        check.promise(12, "Whether THE WAY IN HAND is LET: 0;");
        check.term(1, "LET it is, if each two neighbours have a TIE (UP or not)");
        DomainHouse house = hill();
        way(check, house, 0);
        way(check, house, 0, 0);
        way(check, house, 0, 9);
        way(check, house, 0, 0, 1);
        way(check, house, 1, 0, 2);
        way(check, house, 1, 0, 9);
        way(check, house, 1, 9, 0);
        way(check, house, 1, 9, 9);
        way(check, house, 1, 4, 4);
        for (int t = 0; t < 8; t++) {
            house.raise(t, false);
        }
        way(check, house, 0, 0, 1, 2, 3, 5);
    }

    private static void wrongSteps(Check check) {
        check.promise(12, "else 1 and the place (from 0 on) of the first DOMAIN from which a step goes that cannot be.");
        check.term(1, "to PROVIDERS, as many as wanted, then one to an EQUAL at most, then to CUSTOMERS.");
        DomainHouse house = hill();
        way(check, house, 0, 0, 1, 2);
        way(check, house, 0, 2, 1, 0);
        way(check, house, 0, 2, 3);
        way(check, house, 0, 0, 1, 2, 3, 5);
        way(check, house, 0, 0, 1, 2, 1, 0);
        way(check, house, 2, 2, 3, 4);
        way(check, house, 2, 2, 3, 2);
        way(check, house, 4, 0, 1, 2, 3, 4);
        way(check, house, 3, 2, 3, 5, 3);
        way(check, house, 2, 1, 0, 1);
        way(check, house, 2, 3, 5, 4);
        way(check, house, 2, 4, 5, 3, 9, 9);
        way(check, house, 3, 4, 3, 5, 9);
        way(check, house, 1, 0, 9, 0, 9);
    }

    private static void kinLeftOut(Check check) {
        check.term(1, "and its steps, those of KIN left out, are:");
        DomainHouse house = hill();
        way(check, house, 0, 1, 6);
        way(check, house, 0, 1, 6, 1, 6, 1);
        way(check, house, 0, 0, 1, 6, 7);
        way(check, house, 0, 0, 1, 6, 1, 2, 3, 5);
        way(check, house, 0, 7, 6, 1, 0);
        way(check, house, 3, 7, 6, 1, 2);
        way(check, house, 4, 7, 6, 1, 6, 7);
        way(check, house, 4, 2, 1, 6, 1, 2);
    }

    private static void lastStepOfTwenty(Check check) {
        check.promise(12, "else 1 and the place (from 0 on) of the first DOMAIN from which a step goes that cannot be.");
        DomainHouse house = hill();
        house.walk(-1);
        for (int i = 0; i < 19; i++) {
            house.walk(i % 2 == 0 ? 1 : 6);
        }
        house.walk(6);
        check.due("20 numbers, all of KIN", house.letWay(), 0);
        house.walk(-1);
        for (int i = 0; i < 19; i++) {
            house.walk(i % 2 == 0 ? 1 : 6);
        }
        house.walk(9);
        check.due("the step from place 18", house.letWay(), 19);
    }
}
