/** The edges of promises 37 to 43 and of part 6 of the terms: letters, demands, loads, least tables, what differs. */
public final class EdgesOfLettersTest {
    private static final int LEAST = Integer.MIN_VALUE;
    private static final int MOST = Integer.MAX_VALUE;
    private static final int TEN = Scene.TEN;
    private static final int ALL = 500;

    public static void main(String[] args) {
        Check check = new Check("EdgesOfLettersTest");
        longestPrefix(check);
        somethingPicked(check);
        arrives(check);
        wrongLetters(check);
        rings(check);
        ringOfTen(check);
        led(check);
        demands(check);
        wrongDemands(check);
        sixteenDemands(check);
        loads(check);
        loadsOfRings(check);
        wrongLoads(check);
        units(check);
        wrongUnits(check);
        emptyTables(check);
        leastOfOne(check);
        leastOfHalves(check);
        nestedTables(check);
        leastOfMany(check);
        leastOverEachTie(check);
        wrongLeasts(check);
        differs(check);
        differsAtTheEnds(check);
        differsInAnyOrder(check);
        samePartner(check);
        wrongDiffers(check);
        check.end();
    }

    private static void longestPrefix(Check check) {
        check.term(6, "A LETTER for an address at a DOMAIN: by the longest of the PREFIXES with something PICKED there that HOLDS it:");
        DomainHouse house = new DomainHouse();
        Check.domains(house, 3);
        house.prefix(TEN, 31);
        house.prefix(0, 0);
        house.prefix(TEN, 32);
        house.prefix(TEN, 8);
        house.tie(0, 1, 0);
        house.tie(0, 2, 0);
        house.announce(1, 1, 0);
        house.announce(2, 3, 0);
        house.announce(1, 0, 0);
        house.announce(2, 2, 0);
        house.go(ALL);
        int[][] each = {{TEN, 2}, {TEN + 1, 1}, {TEN + 2, 2}, {TEN + 0xFFFFFF, 2}, {TEN + 0x1000000, 1}, {TEN - 1, 1}, {-1, 1}, {0, 1}, {LEAST, 1}};
        for (int[] one : each) {
            check.due("letter", house.letter(0, one[0]), 0);
            check.due("to " + one[0], house.led(1), one[1]);
        }
    }

    private static void somethingPicked(Check check) {
        check.term(6, "by the longest of the PREFIXES with something PICKED there that HOLDS it:");
        DomainHouse house = Scene.chain(2);
        house.prefix(TEN, 32);
        house.announce(0, 0, 0);
        house.go(ALL);
        check.due("the longer one is PICKED by none", house.letter(1, TEN), 0);
        check.dueRow("so by the shorter one", house::led, 1, 0);
        house.announce(1, 1, 0);
        check.due("OWN", house.letter(1, TEN), 0);
        check.dueRow("at home", house::led, 1);
        check.due("the next address", house.letter(1, TEN + 1), 0);
        check.dueRow("by the shorter one", house::led, 1, 0);
    }

    private static void arrives(Check check) {
        check.term(6, "OWN: it has arrived; else it goes to the partner of that TIE; there is none: NOWHERE;");
        check.promise(37, "A LETTER: 0 it arrives, 1 NOWHERE, 2 it RINGS.");
        DomainHouse house = Scene.chain(3);
        int[] addresses = {0, -1, LEAST, MOST, TEN};
        for (int address : addresses) {
            check.due("nothing is PICKED", house.letter(0, address), 1);
        }
        house.announce(0, 0, 0);
        check.due("OWN", house.letter(0, TEN), 0);
        check.due("not HEARD yet", house.letter(2, TEN), 1);
        house.go(1);
        check.due("over one", house.letter(1, TEN), 0);
        house.go(1);
        check.due("over two", house.letter(2, TEN), 0);
        check.dueRow("led", house::led, 2, 1, 0);
        house.raise(0, false);
        check.due("1 has nothing, 2 still sends there", house.letter(2, TEN), 1);
        check.dueRow("led", house::led, 2, 1);
    }

    private static void wrongLetters(Check check) {
        check.promise(37, "BAD: no such DOMAIN.");
        DomainHouse house = Scene.chain(2);
        house.announce(0, 0, 0);
        house.letter(0, TEN);
        int[] wrong = {-1, 2, 10, LEAST, MOST};
        for (int domain : wrong) {
            check.due("letter " + domain, house.letter(domain, TEN), Check.BAD);
            check.dueRow("the latest LETTER stays", house::led, 0);
        }
        check.due("the last DOMAIN", house.letter(1, TEN), 1);
    }

    private static void rings(Check check) {
        check.term(6, "a DOMAIN comes a second time: it RINGS.");
        check.promise(38, "RINGS: up to the one that comes a second time, that included);");
        DomainHouse house = Scene.chain(4);
        house.prefix(0, 0);
        house.announce(0, 1, 0);
        house.announce(3, 0, 0);
        house.go(ALL);
        house.withdraw(3, 0);
        check.due("from the end of it", house.letter(3, TEN), 2);
        check.dueRow("back where it began", house::led, 3, 2, 3);
        check.due("from afar", house.letter(0, TEN), 2);
        check.dueRow("not where it began", house::led, 0, 1, 2, 3, 2);
        check.due("another address", house.letter(3, 0), 0);
    }

    /** Each of ten has heard from the next one: a letter rings after ten ties, the most that there can be. */
    private static DomainHouse tenInARing() {
        DomainHouse house = new DomainHouse();
        house.prefix(TEN, 8);
        Check.domains(house, 10);
        for (int i = 0; i < 10; i++) {
            house.tie(i, (i + 1) % 10, 1);
        }
        Check.message(house, new Wire().origin(0).way(99).announce(TEN, 8).bytes());
        for (int i = 0; i < 10; i++) {
            house.hear(i, 0);
        }
        return house;
    }

    private static void ringOfTen(Check check) {
        check.promise(38, "RINGS: up to the one that comes a second time, that included);");
        DomainHouse house = tenInARing();
        check.due("rings", house.letter(7, TEN), 2);
        check.dueRow("all ten and the first again", house::led, 7, 8, 9, 0, 1, 2, 3, 4, 5, 6, 7);
        house.announce(6, 0, 0);
        check.due("the tenth has it", house.letter(7, TEN), 0);
        check.dueRow("all ten", house::led, 7, 8, 9, 0, 1, 2, 3, 4, 5, 6);
    }

    private static void led(Check check) {
        check.promise(38, "The i-th DOMAIN that the latest LETTER came to (the first one: where it began;");
        DomainHouse house = Scene.chain(2);
        check.due("no LETTER", house.led(0), Check.NONE);
        house.letter(1, 5);
        check.dueRow("NOWHERE: where it began", house::led, 1);
        house.announce(0, 0, 0);
        house.go(ALL);
        house.letter(1, TEN);
        check.dueRow("two", house::led, 1, 0);
        house.letter(0, TEN);
        check.dueRow("the latest, a shorter one", house::led, 0);
        check.promise(38, "NONE: none such.");
        int[] none = {-1, 1, 2, 10, 11, LEAST, MOST};
        for (int i : none) {
            check.due("led " + i, house.led(i), Check.NONE);
        }
    }

    private static void demands(Check check) {
        check.promise(39, "A DEMAND: its number.");
        DomainHouse house = Scene.chain(2);
        check.due("the least", house.demand(0, 0, 1), 0);
        check.due("the greatest", house.demand(1, -1, 1000000), 1);
        check.due("the first again", house.demand(0, 0, 1), 2);
        check.due("all go NOWHERE", house.units(1), 1000002);
    }

    private static void wrongDemands(Check check) {
        check.promise(39, "BAD: no such DOMAIN; units are not 1 .. 1000000.");
        DomainHouse house = Scene.chain(2);
        int[][] wrong = {{-1, 1}, {2, 1}, {LEAST, 1}, {MOST, 1}, {0, 0}, {0, -1}, {0, 1000001}, {0, LEAST}, {0, MOST}};
        for (int[] one : wrong) {
            check.due("demand " + java.util.Arrays.toString(one), house.demand(one[0], TEN, one[1]), Check.BAD);
        }
        check.due("none", house.count(5), 0);
        check.due("none", house.units(1), 0);
    }

    private static void sixteenDemands(Check check) {
        check.promise(39, "FULL.");
        check.term(6, "DEMANDS (16) are units of letters from a DOMAIN for an address.");
        DomainHouse house = Scene.chain(2);
        for (int i = 0; i < 16; i++) {
            check.due("demand", house.demand(0, TEN, 1000000), i);
        }
        check.due("the 17th", house.demand(0, TEN, 1), Check.FULL);
        check.due("BAD stands ahead of it", house.demand(0, TEN, 0), Check.BAD);
        check.due("BAD stands ahead of it", house.demand(2, TEN, 1), Check.BAD);
        check.due("16", house.count(5), 16);
        check.due("all of them", house.units(1), 16000000);
        house.announce(1, 0, 0);
        house.go(ALL);
        check.due("all of them", house.load(0, 0), 16000000);
        check.due("all of them", house.units(0), 16000000);
    }

    private static void loads(Check check) {
        check.promise(40, "Units of all DEMANDS that go over a TIE from a SIDE to the other one (each time they do so).");
        DomainHouse house = Scene.chain(3);
        check.due("without DEMANDS", house.load(0, 0), 0);
        house.announce(2, 0, 0);
        house.go(ALL);
        house.demand(0, TEN, 3);
        house.demand(1, TEN, 40);
        house.demand(2, TEN, 500);
        house.demand(0, 0, 6000);
        int[] want = {3, 0, 43, 0};
        for (int i = 0; i < want.length; i++) {
            check.due("TIE " + i / 2 + ", SIDE " + i % 2, house.load(i / 2, i % 2), want[i]);
        }
        house.withdraw(2, 0);
        house.announce(0, 0, 0);
        house.go(ALL);
        int[] back = {0, 540, 0, 500};
        for (int i = 0; i < back.length; i++) {
            check.due("TIE " + i / 2 + ", SIDE " + i % 2 + ", as it is now", house.load(i / 2, i % 2), back[i]);
        }
    }

    private static void loadsOfRings(Check check) {
        check.promise(40, "(each time they do so).");
        DomainHouse house = tenInARing();
        house.demand(7, TEN, 1000000);
        house.demand(2, TEN, 1);
        for (int tie = 0; tie < 10; tie++) {
            check.due("each TIE once by each, TIE " + tie, house.load(tie, 0), 1000001);
            check.due("none the other way, TIE " + tie, house.load(tie, 1), 0);
        }
        DomainHouse two = Scene.chain(3);
        two.prefix(0, 0);
        two.announce(0, 1, 0);
        two.announce(2, 0, 0);
        two.go(ALL);
        two.withdraw(2, 0);
        two.demand(0, TEN, 8);
        check.due("there", two.load(1, 0), 8);
        check.due("and back", two.load(1, 1), 8);
        check.due("no further", two.load(0, 1), 0);
    }

    private static void wrongLoads(Check check) {
        check.promise(40, "BAD: none such.");
        DomainHouse house = Scene.chain(2);
        int[][] wrong = {{-1, 0}, {1, 0}, {20, 0}, {LEAST, 0}, {MOST, 0}, {0, -1}, {0, 2}, {0, LEAST}, {0, MOST}};
        for (int[] one : wrong) {
            check.due("load " + java.util.Arrays.toString(one), house.load(one[0], one[1]), Check.BAD);
        }
    }

    private static void units(Check check) {
        check.promise(41, "Units of all DEMANDS that arrive (0), go NOWHERE (1), RING (2).");
        DomainHouse house = Scene.chain(3);
        house.prefix(0, 1);
        house.prefix(0, 0);
        house.announce(0, 2, 0);
        house.announce(2, 1, 0);
        house.go(ALL);
        house.withdraw(2, 1);
        house.raise(1, false);
        house.demand(0, -1, 1);
        house.demand(1, -1, 20);
        house.demand(2, -1, 300);
        house.demand(0, 5, 4000);
        check.due("arrive", house.units(0), 21);
        check.due("NOWHERE", house.units(1), 300);
        check.due("RING: 0 still sends to 1, which sends back", house.units(2), 4000);
        DomainHouse ring = tenInARing();
        ring.demand(0, TEN, 7);
        ring.demand(0, 0, 8);
        check.due("arrive", ring.units(0), 0);
        check.due("NOWHERE", ring.units(1), 8);
        check.due("RING", ring.units(2), 7);
    }

    private static void wrongUnits(Check check) {
        check.promise(41, "BAD: another what.");
        DomainHouse house = Scene.chain(2);
        int[] wrong = {-1, 3, 4, LEAST, MOST};
        for (int what : wrong) {
            check.due("units " + what, house.units(what), Check.BAD);
        }
    }

    // ---- tables

    /** One domain that begins all these prefixes: address, length, and so on. */
    private static DomainHouse beginner(int... prefixes) {
        DomainHouse house = new DomainHouse();
        house.domain();
        for (int i = 0; i + 1 < prefixes.length; i += 2) {
            house.announce(0, house.prefix(prefixes[i], prefixes[i + 1]), 0);
        }
        return house;
    }

    private static void emptyTables(Check check) {
        check.promise(42, "How many PREFIXES the least TABLE has by which every address goes as a DOMAIN's LETTERS go.");
        check.term(6, "an address goes as the longest one that HOLDS it tells, without one NOWHERE.");
        DomainHouse house = new DomainHouse();
        house.domain();
        check.due("no PREFIXES", house.least(0), 0);
        house.prefix(0, 0);
        house.prefix(TEN, 8);
        check.due("nothing is PICKED", house.least(0), 0);
    }

    private static void leastOfOne(Check check) {
        check.promise(42, "How many PREFIXES the least TABLE has by which every address goes as a DOMAIN's LETTERS go.");
        for (int length = 0; length <= 32; length++) {
            int mask = length == 0 ? 0 : -1 << 32 - length;
            check.due("one of " + length, beginner(0xA5C3E187 & mask, length).least(0), 1);
            check.due("the last one of " + length, beginner(mask, length).least(0), 1);
        }
    }

    private static void leastOfHalves(Check check) {
        check.term(6, "A TABLE is any set of PREFIXES (not those of 1), each with where letters go (a TIE, OWN, NOWHERE);");
        check.due("two halves are one", beginner(0, 1, LEAST, 1).least(0), 1);
        check.due("three quarters: all, and NOWHERE", beginner(0, 1, LEAST, 2).least(0), 2);
        check.due("two that do not touch", beginner(0, 2, LEAST, 2).least(0), 2);
        check.due("two neighbours that are no halves", beginner(1 << 30, 2, LEAST, 2).least(0), 2);
        check.due("two addresses at the end", beginner(-1, 32, -2, 32).least(0), 1);
        check.due("two addresses that are no halves", beginner(1, 32, 2, 32).least(0), 2);
        check.due("one within another", beginner(0, 1, 0, 32).least(0), 1);
        int[] allButOne = new int[20];
        for (int i = 0; i < 10; i++) {
            allButOne[2 * i] = 1 << 31 - i;
            allButOne[2 * i + 1] = i + 1;
        }
        check.due("all but the first 1024th: all, and NOWHERE", beginner(allButOne).least(0), 2);
    }

    private static void nestedTables(Check check) {
        check.term(6, "each with where letters go (a TIE, OWN, NOWHERE);");
        DomainHouse house = new DomainHouse();
        Check.domains(house, 3);
        for (int i = 0; i < 10; i++) {
            house.prefix(0, 3 * i);
        }
        house.tie(0, 1, 0);
        house.tie(0, 2, 0);
        for (int p = 0; p < 10; p++) {
            house.announce(1 + p % 2, p, 0);
        }
        house.go(ALL);
        check.due("ten within one another, by turns", house.least(0), 10);
        check.due("OWN and the TIE by turns", house.least(1), 10);
        for (int p = 1; p < 10; p += 2) {
            house.withdraw(2, p);
        }
        house.go(ALL);
        check.due("all over one TIE", house.least(0), 1);
    }

    /** Sixteen parts that go by turns over two ties: eight holes in one that holds all. */
    private static void leastOfMany(Check check) {
        check.promise(42, "How many PREFIXES the least TABLE has by which every address goes as a DOMAIN's LETTERS go.");
        DomainHouse house = new DomainHouse();
        Check.domains(house, 3);
        house.tie(0, 1, 0);
        house.tie(0, 2, 0);
        for (int i = 0; i < 8; i++) {
            house.prefix(i << 29, 3);
            house.announce(1 + i % 2, i, 0);
        }
        house.go(ALL);
        check.due("four of one, one that holds all of the other", house.least(0), 5);
        house.prefix(0, 0);
        house.announce(0, 8, 0);
        check.due("what holds all is hidden", house.least(0), 5);
        house.withdraw(1, 0);
        house.withdraw(2, 1);
        house.go(ALL);
        check.due("OWN in the first quarter: all over TIE 0, that one, three over TIE 1", house.least(0), 5);
    }

    /** Each of twenty ties leads elsewhere: its table has one prefix, and none of them is NOWHERE or OWN. */
    private static void leastOverEachTie(Check check) {
        check.term(6, "each with where letters go (a TIE, OWN, NOWHERE);");
        DomainHouse house = new DomainHouse();
        Check.domains(house, 10);
        house.prefix(0, 1);
        house.prefix(1 << 30, 2);
        house.prefix(1 << 29, 3);
        for (int i = 0; i < 20; i++) {
            house.tie(i % 10, (i + 1 + i / 10) % 10, 1);
        }
        Wire first = new Wire().origin(0).way(99).announce(0, 1);
        for (int tie = 0; tie < 20; tie++) {
            int domain = tie % 10;
            Wire.hear(house, tie, 0, first);
            check.due("over TIE " + tie, house.least(domain), 1);
            house.announce(domain, 1, 0);
            check.due("and OWN", house.least(domain), 2);
            house.withdraw(domain, 1);
            Wire.hear(house, tie, 0, new Wire().withdraw(0, 1));
            check.due("NOWHERE", house.least(domain), 0);
        }
        Wire.hear(house, 9, 0, first);
        Wire.hear(house, 19, 0, new Wire().origin(0).way(99).announce(1 << 30, 2));
        check.due("over TIES 9 and 19", house.least(9), 2);
        house.announce(9, 2, 0);
        check.due("over TIES 9 and 19, and OWN", house.least(9), 3);
    }

    private static void wrongLeasts(Check check) {
        check.promise(42, "BAD: none such.");
        DomainHouse house = Scene.chain(2);
        int[] wrong = {-1, 2, 10, LEAST, MOST};
        for (int domain : wrong) {
            check.due("least " + domain, house.least(domain), Check.BAD);
        }
        check.due("the last one", house.least(1), 0);
    }

    private static void differs(Check check) {
        check.promise(43, "How many addresses two DOMAINS do not send to the same: the same partner, both OWN, or both NOWHERE.");
        DomainHouse house = Scene.chain(2);
        check.due("both NOWHERE", house.differ(0, 1), 0);
        house.announce(0, 0, 0);
        check.due("OWN and NOWHERE", house.differ(0, 1), 1 << 24);
        check.due("the other way round", house.differ(1, 0), 1 << 24);
        check.due("itself", house.differ(0, 0), 0);
        house.announce(1, 0, 0);
        check.due("both OWN", house.differ(0, 1), 0);
        house.withdraw(1, 0);
        house.go(ALL);
        check.due("OWN and a partner", house.differ(0, 1), 1 << 24);
    }

    private static void differsAtTheEnds(Check check) {
        check.promise(43, "How many addresses two DOMAINS do not send to the same:");
        for (int length = 0; length <= 32; length++) {
            int mask = length == 0 ? 0 : -1 << 32 - length;
            DomainHouse house = new DomainHouse();
            Check.domains(house, 2);
            house.announce(0, house.prefix(mask, length), 0);
            check.due("the last one of " + length, house.differ(0, 1), 1L << 32 - length);
        }
        DomainHouse all = new DomainHouse();
        Check.domains(all, 2);
        all.prefix(0, 0);
        all.prefix(-1, 32);
        all.prefix(0, 32);
        all.announce(0, 0, 0);
        check.due("all addresses", all.differ(0, 1), 1L << 32);
        all.announce(1, 1, 0);
        check.due("all but the last", all.differ(0, 1), (1L << 32) - 1);
        all.announce(1, 2, 0);
        check.due("and the first", all.differ(0, 1), (1L << 32) - 2);
    }

    /** The prefixes come in any order, and some hold others. */
    private static void differsInAnyOrder(Check check) {
        check.promise(43, "How many addresses two DOMAINS do not send to the same:");
        int[][] prefixes = {{-1, 32}, {LEAST, 1}, {1 << 30, 2}, {1 << 29, 3}, {0, 32}, {LEAST, 2}};
        int[][] orders = {{0, 1, 2, 3, 4, 5}, {5, 4, 3, 2, 1, 0}, {4, 3, 2, 1, 0, 5}, {2, 4, 0, 1, 5, 3}, {1, 0, 3, 5, 4, 2}};
        for (int[] order : orders) {
            DomainHouse house = new DomainHouse();
            Check.domains(house, 2);
            for (int i : order) {
                house.announce(0, house.prefix(prefixes[i][0], prefixes[i][1]), 0);
            }
            check.due("the upper half, 3 of 8 parts of the lower one, one address", house.differ(0, 1), (1L << 31) + (3L << 29) + 1);
        }
    }

    private static void samePartner(Check check) {
        check.promise(43, "the same partner, both OWN, or both NOWHERE.");
        DomainHouse house = new DomainHouse();
        Check.domains(house, 4);
        house.prefix(0, 0);
        house.tie(0, 2, 0);
        house.tie(1, 2, 0);
        house.tie(1, 3, 0);
        house.announce(2, 0, 0);
        house.go(ALL);
        check.due("one partner over two TIES", house.differ(0, 1), 0);
        check.due("a partner and OWN", house.differ(0, 2), 1L << 32);
        check.due("two partners", house.differ(0, 3), 1L << 32);
    }

    private static void wrongDiffers(Check check) {
        check.promise(43, "-1: no such DOMAINS.");
        DomainHouse house = Scene.chain(2);
        int[][] wrong = {{-1, 0}, {0, -1}, {2, 0}, {0, 2}, {-1, -1}, {2, 2}, {LEAST, 0}, {0, MOST}};
        for (int[] one : wrong) {
            check.due("differ " + java.util.Arrays.toString(one), house.differ(one[0], one[1]), -1);
        }
        check.due("the last one", house.differ(1, 1), 0);
    }
}
