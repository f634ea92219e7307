/** Promises 37 to 43: letter, led, demand, load, units, least, differ. */
public final class LettersTest {
    private static final int TEN = 10 << 24;

    public static void main(String[] args) {
        Check check = new Check("LettersTest");
        letters(check);
        rings(check);
        demands(check);
        least(check);
        leastWithNowhere(check);
        differ(check);
        differOfAll(check);
        check.end();
    }

    /** Domains 0 .. 3 in a row; 0 begins all addresses, 3 begins 10.0.0.0/8. */
    private static DomainHouse house() {
        DomainHouse house = new DomainHouse();
        house.prefix(0, 0);
        house.prefix(TEN, 8);
        house.prefix(TEN | 1 << 16, 16);
        Check.domains(house, 5);
        house.tie(0, 1, 0);
        house.tie(1, 2, 0);
        house.tie(2, 3, 0);
        house.announce(0, 0, 0);
        house.announce(3, 1, 0);
        house.go(500);
        return house;
    }

    private static void letters(Check check) {
        DomainHouse house = house();
        check.due("none yet", house.led(0), Check.NONE);
        check.due("to 3", house.letter(0, TEN + 5), 0);
        check.dueRow("led", house::led, 0, 1, 2, 3);
        check.due("to 0", house.letter(3, -1), 0);
        check.dueRow("led", house::led, 3, 2, 1, 0);
        check.due("at home", house.letter(3, TEN), 0);
        check.dueRow("led", house::led, 3);
        check.due("nowhere", house.letter(4, TEN), 1);
        check.dueRow("led", house::led, 4);
        house.withdraw(3, 1);
        check.due("3 sends back what 2 still sends to it", house.letter(1, TEN), 2);
        check.due("no domain", house.letter(5, 0), Check.BAD);
        check.due("no domain", house.letter(-1, 0), Check.BAD);
        check.due("led -1", house.led(-1), Check.NONE);
        house.go(500);
        check.due("all to 0", house.letter(3, TEN), 0);
        check.dueRow("led", house::led, 3, 2, 1, 0);
        house.withdraw(0, 0);
        house.go(500);
        check.due("nowhere at once", house.letter(2, TEN), 1);
        check.due("BAD keeps the latest", house.letter(9, TEN), Check.BAD);
        check.dueRow("led", house::led, 2);
    }

    private static void rings(Check check) {
        DomainHouse house = house();
        house.withdraw(3, 1);
        check.due("rings", house.letter(0, TEN), 2);
        check.dueRow("up to the second time", house::led, 0, 1, 2, 3, 2);
        house.demand(0, TEN, 7);
        check.due("over 2 once there", house.load(2, 0), 7);
        check.due("and back", house.load(2, 1), 7);
        check.due("first", house.load(0, 0), 7);
        check.due("not back there", house.load(1, 1), 0);
        check.due("units that ring", house.units(2), 7);
        check.dueRow("led is still the letter's", house::led, 0, 1, 2, 3, 2);
    }

    private static void demands(Check check) {
        DomainHouse house = house();
        check.due("no domain", house.demand(5, 0, 1), Check.BAD);
        check.due("units 0", house.demand(0, 0, 0), Check.BAD);
        check.due("units 1000001", house.demand(0, 0, 1000001), Check.BAD);
        check.due("first", house.demand(0, TEN, 1000000), 0);
        check.due("second", house.demand(1, TEN, 20), 1);
        check.due("third", house.demand(3, 0, 300), 2);
        check.due("fourth", house.demand(4, 0, 4000), 3);
        check.due("over 0 down", house.load(0, 0), 1000000);
        check.due("over 1 down", house.load(1, 0), 1000020);
        check.due("over 2 down", house.load(2, 0), 1000020);
        check.due("over 2 up", house.load(2, 1), 300);
        check.due("arrive", house.units(0), 1000320);
        check.due("nowhere", house.units(1), 4000);
        check.due("ring", house.units(2), 0);
        check.due("units 3", house.units(3), Check.BAD);
        check.due("units -1", house.units(-1), Check.BAD);
        check.due("load tie", house.load(3, 0), Check.BAD);
        check.due("load side", house.load(0, 2), Check.BAD);
        for (int i = 4; i < 16; i++) {
            check.due("demand", house.demand(0, TEN, 1000000), i);
        }
        check.due("BAD ahead of FULL", house.demand(0, 0, 0), Check.BAD);
        check.due("FULL", house.demand(0, 0, 1), Check.FULL);
        check.due("sum", house.load(0, 0), 13000000);
        house.raise(1, false);
        check.due("as routes are now", house.load(1, 0), 0);
    }

    private static void least(Check check) {
        DomainHouse house = house();
        check.due("nothing picked", house.least(4), 0);
        check.due("0: own, and 10 to tie 0", house.least(0), 2);
        check.due("3: to tie 2, own", house.least(3), 2);
        check.due("no domain", house.least(5), Check.BAD);
        check.due("no domain", house.least(-1), Check.BAD);
        house.announce(3, 2, 0);
        house.go(500);
        check.due("one within that goes alike", house.least(0), 2);
        house.withdraw(3, 2);
        house.announce(0, 2, 0);
        house.go(500);
        check.due("one within that goes otherwise", house.least(0), 3);
        check.due("likewise at 3", house.least(3), 3);
        DomainHouse halves = new DomainHouse();
        Check.domains(halves, 1);
        for (int i = 0; i < 4; i++) {
            halves.prefix(i << 30, 2);
            halves.announce(0, i, 0);
            check.due("quarters " + i, halves.least(0), i == 2 ? 2 : 1);
        }
    }

    /** Where most is sent one way, a hole is told by an entry that leads nowhere. */
    private static void leastWithNowhere(Check check) {
        DomainHouse house = new DomainHouse();
        Check.domains(house, 1);
        house.prefix(Integer.MIN_VALUE, 1);
        for (int length = 2; length <= 7; length++) {
            house.prefix(1 << 32 - length, length);
        }
        for (int p = 0; p < house.count(0); p++) {
            house.announce(0, p, 0);
        }
        check.due("all but the first 128th", house.least(0), 2);
        DomainHouse one = new DomainHouse();
        Check.domains(one, 1);
        one.prefix(-1, 32);
        one.announce(0, 0, 0);
        check.due("one address", one.least(0), 1);
        one.prefix(0, 0);
        one.announce(0, 1, 0);
        check.due("it is within", one.least(0), 1);
    }

    private static void differ(Check check) {
        DomainHouse house = house();
        check.due("itself", house.differ(2, 2), 0);
        check.due("both nowhere but for all", house.differ(4, 0), 1L << 32);
        check.due("0 and 3: 10 is own there, the rest own here", house.differ(0, 3), 1L << 32);
        check.due("0 and 2: 10 to 1 and 3, the rest own and 1", house.differ(0, 2), 1L << 32);
        check.due("1 and 3: 10 to 2 and own, the rest to 0 and 2", house.differ(1, 3), 1L << 32);
        check.due("no domain", house.differ(0, 5), -1);
        check.due("no domain", house.differ(-1, 0), -1);
        house.tie(1, 3, 0);
        house.withdraw(0, 0);
        house.announce(1, 0, 0);
        house.raise(3, true);
        house.go(500);
        check.due("the same partner over two ties", house.differ(2, 3), 1L << 24);
        house.announce(3, 0, 0);
        check.due("both own but for 10", house.differ(1, 3), 1L << 24);
    }

    private static void differOfAll(Check check) {
        DomainHouse house = new DomainHouse();
        Check.domains(house, 2);
        check.due("both nowhere", house.differ(0, 1), 0);
        house.prefix(-1, 32);
        house.announce(0, 0, 0);
        check.due("one address", house.differ(0, 1), 1);
        house.prefix(Integer.MIN_VALUE, 1);
        house.announce(1, 1, 0);
        check.due("upper half less one", house.differ(0, 1), (1L << 31) - 1);
        house.prefix(0, 0);
        house.announce(0, 2, 0);
        check.due("lower half", house.differ(1, 0), 1L << 31);
    }
}
