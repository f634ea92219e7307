/** Promises 13 to 16: today, right, strike, verdict; and that all look and say anew by them. */
public final class RightsTest {
    private static final int TEN = 10 << 24;

    public static void main(String[] args) {
        Check check = new Check("RightsTest");
        told(check);
        full(check);
        verdicts(check);
        verdictsNeedOneRight(check);
        lookedAtAnew(check);
        saidAnew(check);
        check.end();
    }

    private static DomainHouse house() {
        DomainHouse house = new DomainHouse();
        house.prefix(TEN, 8);
        house.prefix(TEN, 16);
        house.prefix(TEN, 24);
        house.prefix(11 << 24, 16);
        Check.domains(house, 3);
        return house;
    }

    private static void told(Check check) {
        DomainHouse house = house();
        check.due("today", house.today(5), 0);
        check.due("today again", house.today(Integer.MAX_VALUE), 5);
        check.due("today -1", house.today(-1), Check.BAD);
        check.due("what it was", house.today(0), Integer.MAX_VALUE);
        check.due("no prefix", house.right(4, 24, 0, 0, 1, 0), Check.BAD);
        check.due("no domain", house.right(0, 24, 3, 0, 1, 0), Check.BAD);
        check.due("most below", house.right(1, 15, 0, 0, 1, 0), Check.BAD);
        check.due("most 33", house.right(1, 33, 0, 0, 1, 0), Check.BAD);
        check.due("from -1", house.right(1, 16, 0, -1, 1, 0), Check.BAD);
        check.due("to is from", house.right(1, 16, 0, 1, 1, 0), Check.BAD);
        check.due("known -1", house.right(1, 16, 0, 0, 1, -1), Check.BAD);
        check.due("the least", house.right(1, 16, 0, 0, 1, 0), 0);
        check.due("the most", house.right(1, 32, 2, 0, Integer.MAX_VALUE, Integer.MAX_VALUE), 1);
        check.due("strike none such", house.strike(2, 0), Check.BAD);
        check.due("strike -1", house.strike(-1, 0), Check.BAD);
        check.due("strike too early", house.strike(1, Integer.MAX_VALUE - 1), Check.BAD);
        check.due("strike at once", house.strike(0, 0), 0);
        check.due("BAD ahead of NO", house.strike(0, -1), Check.BAD);
        check.due("struck already", house.strike(0, 9), Check.NO);
        check.due("never known", house.verdict(1, 0, 0, 0), 2);
    }

    private static void full(Check check) {
        DomainHouse house = house();
        for (int i = 0; i < 30; i++) {
            check.due("right", house.right(0, 8, 0, 0, 1, 0), i);
        }
        check.due("BAD ahead of FULL", house.right(0, 7, 0, 0, 1, 0), Check.BAD);
        check.due("FULL", house.right(0, 8, 0, 0, 1, 0), Check.FULL);
        check.due("count", house.count(3), 30);
    }

    private static void verdicts(Check check) {
        DomainHouse house = house();
        house.right(0, 16, 1, 10, 20, 100);
        house.strike(0, 200);
        check.due("valid", house.verdict(1, 1, 10, 100), 1);
        check.due("of its own prefix", house.verdict(0, 1, 19, 199), 1);
        check.due("ahead of its days", house.verdict(1, 1, 9, 100), 2);
        check.due("its last day is ahead of to", house.verdict(1, 1, 20, 100), 2);
        check.due("not known yet", house.verdict(1, 1, 10, 99), 2);
        check.due("struck", house.verdict(1, 1, 10, 200), 2);
        check.due("too long", house.verdict(2, 1, 10, 100), 0);
        check.due("another number", house.verdict(1, 2, 10, 100), 0);
        check.due("any number", house.verdict(1, Integer.MIN_VALUE, 10, 100), 0);
        check.due("not held", house.verdict(3, 1, 10, 100), 2);
        check.due("no prefix", house.verdict(4, 1, 0, 0), Check.BAD);
        check.due("day -1", house.verdict(0, 1, -1, 0), Check.BAD);
        check.due("known -1", house.verdict(0, 1, 0, -1), Check.BAD);
        house.right(1, 16, 2, 0, 99, 0);
        check.due("a longer one does not hold the shorter", house.verdict(0, 2, 50, 50), 2);
    }

    /** The number and the greatest length must be those of one right. */
    private static void verdictsNeedOneRight(Check check) {
        DomainHouse house = house();
        house.right(0, 8, 1, 0, 9, 0);
        house.right(0, 32, 2, 0, 9, 0);
        check.due("mixed", house.verdict(1, 1, 0, 0), 0);
        house.right(1, 16, 1, 0, 9, 0);
        check.due("one of three", house.verdict(1, 1, 0, 0), 1);
    }

    private static void lookedAtAnew(Check check) {
        DomainHouse house = house();
        house.tie(0, 1, 0);
        house.tie(1, 2, 0);
        Check.policy(house, "if right bad then bar; if right valid then wish 300; if right unknown then wish 50;");
        house.use(0, 1, 0, 0);
        house.announce(0, 1, 0);
        house.go(9);
        check.due("picked", house.picked(1, 1), 0);
        check.due("unknown", house.hand(1), 50);
        house.right(0, 16, 0, 3, 5, 0);
        house.picked(1, 1);
        check.due("still unknown today", house.hand(1), 50);
        house.today(3);
        house.picked(1, 1);
        check.due("valid from day 3 on", house.hand(1), 300);
        house.right(0, 8, 2, 0, 9, 0);
        check.due("still valid", house.picked(1, 1), 0);
        house.today(5);
        check.due("bad from day 5 on", house.picked(1, 1), Check.NONE);
        check.due("taken back over the next tie", house.count(8), 1);
        house.strike(1, 5);
        check.due("struck today: unknown", house.picked(1, 1), 0);
        check.due("unknown", house.hand(1), 50);
        house.use(0, 0, 0, 0);
        house.announce(1, 2, 0);
        house.go(9);
        check.due("0 has picked it, too", house.picked(0, 2), 0);
        house.today(4);
        check.due("all look, 0 first: bad for 1", house.picked(0, 2), Check.NONE);
    }

    /** A policy out that hangs on rights says anew, though nothing picked has changed. */
    private static void saidAnew(Check check) {
        DomainHouse house = house();
        house.tie(0, 1, 0);
        Check.policy(house, "if not right valid then bar;");
        house.use(0, 0, 1, 0);
        house.announce(0, 1, 0);
        check.due("nothing is said", house.count(8), 0);
        house.right(1, 16, 0, 0, 2, 0);
        check.due("said by a right that is told", house.go(9), 1);
        check.due("heard", house.picked(1, 1), 0);
        house.today(2);
        check.due("taken back by a day", house.go(9), 1);
        check.due("nothing", house.picked(1, 1), Check.NONE);
        house.today(1);
        house.strike(0, 1);
        check.due("said, and taken back before it arrived", house.go(9), 1);
        check.due("nothing", house.picked(1, 1), Check.NONE);
    }
}
