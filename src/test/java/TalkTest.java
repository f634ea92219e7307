/** Promises 22 to 31: use, rule, announce, withdraw, go, until, picked, heard, why, three. */
public final class TalkTest {
    private static final int PROVIDER = 0;
    private static final int ALL = 500;

    public static void main(String[] args) {
        Check check = new Check("TalkTest");
        use(check);
        useInTime(check);
        useOnATieThatIsDown(check);
        rule(check);
        announceAndWithdraw(check);
        alongAChain(check);
        goAndUntil(check);
        untilMoreThanCanBeDone(check);
        gaps(check);
        whatIsUnderWayIsReplaced(check);
        longerGapWaitsAgain(check);
        tiesFallAndComeBack(check);
        waysOfTwenty(check);
        wishStaysAtHome(check);
        whatIsOtherThanBefore(check);
        steps(check);
        groupedAndPlain(check);
        onlyTheBestOfAGroup(check);
        emptyWaysStandAlone(check);
        why(check);
        wrongNumbers(check);
        check.end();
    }

    /** Domains 0 .. n - 1, each a provider of the next one, and one prefix. */
    private static DomainHouse chain(int n) {
        DomainHouse house = new DomainHouse();
        house.prefix(10 << 24, 8);
        Check.domains(house, n);
        for (int i = 0; i + 1 < n; i++) {
            house.tie(i, i + 1, PROVIDER);
        }
        return house;
    }

    /** Domain 0 with a tie to each of 1 .. n, and one prefix. */
    private static DomainHouse star(int n) {
        DomainHouse house = new DomainHouse();
        house.prefix(10 << 24, 8);
        Check.domains(house, n + 1);
        for (int i = 1; i <= n; i++) {
            house.tie(0, i, PROVIDER);
        }
        return house;
    }

    private static void hear(DomainHouse house, int tie, int origin, int cost, int... way) {
        Wire.hear(house, tie, 0, new Wire().origin(origin).way(way).cost(cost).announce(10 << 24, 8));
    }

    private static void use(Check check) {
        DomainHouse house = chain(2);
        Check.policy(house, "bar;");
        check.due("tie 1", house.use(1, 0, 0, 0), Check.BAD);
        check.due("side 2", house.use(0, 2, 0, 0), Check.BAD);
        check.due("side -1", house.use(0, -1, 0, 0), Check.BAD);
        check.due("way 2", house.use(0, 0, 2, 0), Check.BAD);
        check.due("way -1", house.use(0, 0, -1, 0), Check.BAD);
        check.due("policy 1", house.use(0, 0, 0, 1), Check.BAD);
        check.due("policy -1", house.use(0, 0, 0, -1), Check.BAD);
        check.due("use", house.use(0, 0, 0, 0), 0);
        check.due("none", house.use(0, 0, 0, Check.NONE), 0);
    }

    private static void useInTime(Check check) {
        DomainHouse house = chain(2);
        Check.policy(house, "bar;");
        Check.policy(house, "if from 1 and tie customer then wish 7,add 3,cost 9;");
        Check.policy(house, "if from 0 and tie provider then wish 70;");
        house.announce(0, 0, 0);
        house.use(0, 0, 1, 1);
        house.go(ALL);
        check.due("heard at", house.heard(0, 1, 0, 0), 1);
        check.due("wish 100 again", house.hand(1), 100);
        check.due("cost", house.hand(3), 9);
        check.due("mark", house.hand(100), 3);
        house.use(0, 1, 0, 2);
        check.due("looked at once", house.picked(1, 0), 0);
        check.due("as the policy in left it", house.hand(1), 70);
        house.use(0, 1, 0, 0);
        check.due("barred in", house.picked(1, 0), Check.NONE);
        check.due("heard stays", house.heard(0, 1, 0, 0), 1);
        house.use(0, 1, 0, Check.NONE);
        check.due("let again", house.picked(1, 0), 0);
        house.use(0, 0, 1, 0);
        check.due("barred out is taken back", house.go(ALL), 1);
        check.due("nothing", house.heard(0, 1, 0, 0), Check.NONE);
        check.due("nothing said", house.heard(0, 0, 0, 1), Check.NONE);
    }

    private static void useOnATieThatIsDown(Check check) {
        DomainHouse house = chain(2);
        Check.policy(house, "add 1;");
        house.announce(0, 0, 0);
        house.raise(0, false);
        check.due("use out", house.use(0, 0, 1, 0), 0);
        check.due("nothing goes over a tie that is down", house.count(8), 0);
        house.raise(0, true);
        house.go(ALL);
        house.heard(0, 1, 0, 0);
        check.due("with the mark", house.hand(100), 1);
    }

    private static void rule(Check check) {
        DomainHouse house = star(1);
        int[] right = {0, 1, 6, 12345, 654321, 246};
        for (int steps : right) {
            check.due("rule " + steps, house.rule(0, steps, true), 0);
        }
        int[] wrong = {-1, 7, 8, 9, 10, 11, 102, 1234561, 121, 1234567, Integer.MAX_VALUE, Integer.MIN_VALUE};
        for (int steps : wrong) {
            check.due("rule " + steps, house.rule(0, steps, true), Check.BAD);
        }
        check.due("domain 2", house.rule(2, 1, true), Check.BAD);
        check.due("domain -1", house.rule(-1, 1, true), Check.BAD);
    }

    private static void announceAndWithdraw(Check check) {
        DomainHouse house = chain(2);
        check.due("no domain", house.announce(2, 0, 0), Check.BAD);
        check.due("no prefix", house.announce(0, 1, 0), Check.BAD);
        check.due("origin 3", house.announce(0, 0, 3), Check.BAD);
        check.due("origin -1", house.announce(0, 0, -1), Check.BAD);
        check.due("begins nothing", house.withdraw(0, 0), Check.NO);
        check.due("announce", house.announce(0, 0, 1), 0);
        check.due("again", house.announce(0, 0, 1), Check.NO);
        check.due("own", house.picked(0, 0), Check.OWN);
        int[] want = {0, 100, 1, 0, 0, 0};
        for (int i = 0; i < want.length; i++) {
            check.due("own " + i, house.hand(i), want[i]);
        }
        house.go(ALL);
        check.due("another origin", house.announce(0, 0, 2), 0);
        check.due("is said", house.go(ALL), 1);
        house.picked(1, 0);
        check.due("heard", house.hand(2), 2);
        check.due("withdraw", house.withdraw(0, 0), 0);
        check.due("withdraw again", house.withdraw(0, 0), Check.NO);
        check.due("no domain", house.withdraw(2, 0), Check.BAD);
        check.due("no prefix", house.withdraw(0, 1), Check.BAD);
        check.due("picked still", house.picked(1, 0), 0);
        house.go(ALL);
        check.due("taken back", house.picked(1, 0), Check.NONE);
        check.due("what is in hand stays", house.hand(2), 2);
    }

    private static void alongAChain(Check check) {
        DomainHouse house = chain(3);
        house.pace(1, 5, 0);
        house.announce(0, 0, 0);
        check.due("two, nothing goes back", house.go(ALL), 2);
        check.due("clock", house.count(7), 6);
        check.due("said by 0", house.heard(0, 0, 0, 1), 0);
        check.due("heard by 1", house.heard(0, 1, 0, 0), 1);
        check.due("way", house.hand(10), 0);
        check.due("said by 1", house.heard(1, 0, 0, 1), 1);
        check.due("heard by 2", house.heard(1, 1, 0, 0), 6);
        check.dueRow("way", i -> house.hand(10 + i), 1, 0);
        check.due("not said back", house.heard(0, 1, 0, 1), Check.NONE);
        check.due("picked by 2", house.picked(2, 0), 1);
        house.withdraw(0, 0);
        house.go(ALL);
        check.due("gone at 2", house.picked(2, 0), Check.NONE);
        check.due("clock", house.count(7), 12);
    }

    private static void goAndUntil(Check check) {
        DomainHouse house = star(3);
        house.pace(1, 4, 0);
        check.due("go 0", house.go(0), Check.BAD);
        check.due("go 501", house.go(501), Check.BAD);
        check.due("until -1", house.until(-1), Check.BAD);
        check.due("until 1000000001", house.until(1000000001), Check.BAD);
        house.announce(0, 0, 0);
        check.due("to come", house.count(8), 3);
        check.due("one", house.go(1), 1);
        check.due("by ties", house.picked(1, 0), 0);
        check.due("not yet", house.picked(3, 0), Check.NONE);
        check.due("up to 3", house.until(3), 1);
        check.due("clock", house.count(7), 3);
        check.due("below the clock", house.until(2), Check.BAD);
        check.due("at its moment", house.until(4), 1);
        check.due("nothing more", house.until(4), 0);
        check.due("far", house.until(1000000000), 0);
        check.due("clock", house.count(7), 1000000000);
        check.due("done", house.count(9), 3);
        check.due("to come", house.count(8), 0);
    }

    /** Three that each wish most for the way over the next one never come to rest. */
    private static void untilMoreThanCanBeDone(Check check) {
        DomainHouse house = star(3);
        Check.policy(house, "if length=2 then wish 200,let;bar;");
        Check.policy(house, "bar;");
        for (int i = 1; i <= 3; i++) {
            int tie = house.tie(i, i % 3 + 1, 1);
            house.use(tie, 0, 0, 0);
            house.use(tie, 1, 0, 1);
        }
        house.announce(0, 0, 0);
        check.due("500 at most", house.until(1000000), 500);
        check.due("the clock is theirs", house.count(7) < 1000000 ? 1 : 0, 1);
        check.due("done", house.count(9), 500);
        int before = house.count(7);
        check.due("go on", house.go(ALL), ALL);
        check.due("later", house.count(7) > before ? 1 : 0, 1);
        house.withdraw(0, 0);
        house.go(ALL);
        check.due("rest", house.until(house.count(7) + 10), 0);
    }

    private static void gaps(Check check) {
        DomainHouse house = chain(2);
        house.pace(0, 2, 10);
        house.announce(0, 0, 0);
        check.due("the first is said at once", house.count(8), 1);
        house.announce(0, 0, 1);
        check.due("the second waits", house.count(8), 2);
        house.announce(0, 0, 2);
        check.due("one wait only", house.count(8), 2);
        check.due("said last is the first one", house.heard(0, 0, 0, 1), 0);
        check.due("origin", house.hand(2), 0);
        house.go(1);
        check.due("the first arrives", house.count(7), 2);
        house.go(1);
        check.due("the wait ends", house.count(7), 10);
        check.due("the latest is said", house.heard(0, 0, 0, 1), 10);
        check.due("origin", house.hand(2), 2);
        house.until(19);
        house.withdraw(0, 0);
        check.due("nothing waits, too", house.count(8), 1);
        house.announce(0, 0, 2);
        check.due("the wait stays", house.count(8), 1);
        check.due("it ends", house.go(ALL), 1);
        check.due("just what was said last: no more", house.heard(0, 0, 0, 1), 10);
        house.withdraw(0, 0);
        check.due("the gap is over", house.go(ALL), 1);
        check.due("nothing said at", house.heard(0, 0, 0, 1), Check.NONE);
        house.announce(0, 0, 2);
        check.due("a gap from nothing on", house.count(8), 1);
        house.go(1);
        check.due("wait", house.count(7), 30);
    }

    private static void whatIsUnderWayIsReplaced(Check check) {
        DomainHouse house = chain(2);
        house.pace(0, 100, 0);
        house.announce(0, 0, 0);
        house.until(50);
        house.announce(0, 0, 1);
        check.due("one under way", house.count(8), 1);
        check.due("one arrives", house.go(ALL), 1);
        check.due("clock", house.count(7), 150);
        house.picked(1, 0);
        check.due("the later one", house.hand(2), 1);
    }

    private static void longerGapWaitsAgain(Check check) {
        DomainHouse house = chain(2);
        house.pace(0, 1, 10);
        house.announce(0, 0, 0);
        house.announce(0, 0, 1);
        house.pace(0, 1, 25);
        check.due("arrival, wait, wait, arrival", house.go(ALL), 4);
        check.due("clock", house.count(7), 26);
        house.announce(0, 0, 2);
        house.pace(0, 1, 0);
        house.announce(0, 0, 0);
        check.due("without a gap it is said at once, the wait stays", house.count(8), 2);
        check.due("both", house.go(ALL), 2);
        check.due("the wait had nothing to say", house.count(7), 50);
    }

    private static void tiesFallAndComeBack(Check check) {
        DomainHouse house = chain(3);
        house.tie(2, 0, 1);
        house.announce(0, 0, 0);
        house.go(ALL);
        check.due("directly", house.picked(2, 0), 2);
        house.raise(2, false);
        check.due("by 1 at once", house.picked(2, 0), 1);
        check.due("heard is gone", house.heard(2, 0, 0, 0), Check.NONE);
        check.due("said is gone", house.heard(2, 1, 0, 1), Check.NONE);
        house.go(ALL);
        house.raise(2, true);
        house.go(ALL);
        check.due("directly again", house.picked(2, 0), 2);
        check.due("said anew", house.heard(2, 1, 0, 1) > 0 ? 1 : 0, 1);
        house.pace(0, 9, 0);
        house.announce(0, 0, 1);
        house.raise(0, false);
        check.due("what was under way there is gone", house.go(1), 1);
        check.due("1 hears of it by 2", house.go(ALL) > 0 ? 1 : 0, 1);
        check.due("picked by 1", house.picked(1, 0), 1);
        check.dueRow("way", i -> house.hand(10 + i), 2, 0);
    }

    /** With the domain's own number in front a way may have 20 numbers, and no more. */
    private static void waysOfTwenty(Check check) {
        DomainHouse house = chain(2);
        int[] way = new int[19];
        java.util.Arrays.fill(way, 77);
        Wire nineteen = new Wire().origin(0).way(way).announce(10 << 24, 8);
        house.domain();
        house.tie(0, 2, 1);
        Wire.hear(house, 1, 0, nineteen);
        check.due("19 go on", house.count(8), 1);
        house.go(ALL);
        house.picked(1, 0);
        check.due("as 20", house.hand(4), 20);
        Wire.hear(house, 1, 0, new Wire().origin(0).way(Wire.join(way, 77)).announce(10 << 24, 8));
        check.due("20 are picked", house.picked(0, 0), 1);
        house.go(ALL);
        check.due("and not said: nothing", house.picked(1, 0), Check.NONE);
    }

    private static void wishStaysAtHome(Check check) {
        DomainHouse house = chain(3);
        Check.policy(house, "wish 300;");
        Check.policy(house, "if wish=100 then add 5;");
        house.use(0, 1, 0, 0);
        house.use(1, 0, 1, 1);
        house.announce(0, 0, 0);
        house.go(ALL);
        house.picked(1, 0);
        check.due("at home", house.hand(1), 300);
        house.picked(2, 0);
        check.due("next one", house.hand(1), 100);
        check.due("the policy out saw 100", house.hand(100), 5);
    }

    /** A change in any one part of what is picked is said; heard again as it was, nothing is. */
    private static void whatIsOtherThanBefore(Check check) {
        DomainHouse house = star(2);
        Wire[] each = {
            new Wire().origin(0).way(7, 6).cost(5).marks(3),
            new Wire().origin(0).way(8, 6).cost(5).marks(3),
            new Wire().origin(0).way(8, 7).cost(5).marks(3),
            new Wire().origin(0).way(8).cost(5).marks(3),
            new Wire().origin(1).way(8).cost(5).marks(3),
            new Wire().origin(1).way(8).cost(4).marks(3),
            new Wire().origin(1).way(8).cost(4).marks(2),
            new Wire().origin(1).way(8).cost(4).marks(2, 3),
        };
        for (Wire one : each) {
            Wire.hear(house, 0, 0, one.announce(10 << 24, 8));
            check.due("said over the other tie", house.count(8), 1);
            house.hear(0, 0);
            check.due("once", house.go(ALL), 1);
        }
    }

    /** Two routes that are unlike in one thing each, under a rule that looks at it first. */
    private static void steps(Check check) {
        DomainHouse house = star(2);
        Check.policy(house, "if from 1 and way (7 any) then wish 101;");
        house.use(0, 0, 0, 0);
        hear(house, 0, 2, 9, 7, 6);
        house.until(5);
        hear(house, 1, 1, 3, 7);
        int[][] rules = {{0, 0}, {1, 0}, {2, 1}, {3, 1}, {4, 1}, {5, 0}, {6, 1}, {12, 0}, {21, 1}, {53, 0}, {35, 1}};
        for (int[] one : rules) {
            house.rule(0, one[0], false);
            check.due("rule " + one[0], house.picked(0, 0), one[1]);
            int other = 1 - one[1];
            int step = one[0] > 9 ? one[0] / 10 : one[0];
            check.due("why " + one[0], house.why(other, 0, 0), step == 0 ? 7 : step);
            check.due("why it is", house.why(one[1], 0, 0), 0);
        }
        hear(house, 1, 1, 3, 8);
        house.rule(0, 4, false);
        check.due("other first numbers: not unlike at 4", house.picked(0, 0), 0);
        check.due("the partner", house.why(1, 0, 0), 7);
        house.rule(0, 46, false);
        check.due("but at 6", house.picked(0, 0), 1);
    }

    /** In a ring of three that beat one another the order of looking tells who is picked. */
    private static void groupedAndPlain(Check check) {
        DomainHouse house = star(3);
        house.rule(0, 45, false);
        house.until(1);
        hear(house, 2, 0, 20, 7, 3);
        house.until(2);
        hear(house, 0, 0, 0, -8);
        house.until(3);
        hear(house, 1, 0, 10, 7);
        check.due("plain", house.picked(0, 0), 2);
        check.due("x", house.three(0, 0, 0), 0);
        check.due("y", house.three(0, 0, 1), 1);
        check.due("z", house.three(0, 0, 2), 2);
        check.due("k 3", house.three(0, 0, 3), Check.NONE);
        check.due("k -1", house.three(0, 0, -1), Check.NONE);
        check.due("why not 0", house.why(0, 0, 0), 5);
        check.due("why not 1, though it beats", house.why(1, 0, 0), 4);
        house.rule(0, 45, true);
        check.due("grouped", house.picked(0, 0), 0);
        check.due("why not 2, though it beats", house.why(2, 0, 0), 5);
        house.until(4);
        hear(house, 0, 0, 0, 5);
        check.due("heard too late", house.picked(0, 0), 1);
        house.rule(0, 65, true);
        check.due("no three", house.three(0, 0, 0), Check.NONE);
        house.rule(0, 45, true);
        house.announce(0, 0, 0);
        check.due("none with own", house.three(0, 0, 0), Check.NONE);
        check.due("no prefix", house.three(0, 1, 0), Check.BAD);
        check.due("no domain, k not looked at", house.three(4, 0, 9), Check.BAD);
    }

    /** What its group has left behind does not come in again, though it would beat the best of another group. */
    private static void onlyTheBestOfAGroup(Check check) {
        DomainHouse house = star(3);
        house.rule(0, 45, true);
        house.until(1);
        hear(house, 2, 0, 20, 7);
        house.until(2);
        hear(house, 0, 0, 0, 5);
        house.until(3);
        hear(house, 1, 0, 10, 7);
        check.due("5 ahead of the best of 7", house.picked(0, 0), 0);
        hear(house, 1, 0, 30, 7);
        check.due("the other one of 7", house.picked(0, 0), 2);
    }

    private static void emptyWaysStandAlone(Check check) {
        DomainHouse house = star(2);
        house.rule(0, 4, true);
        hear(house, 0, 0, 5);
        hear(house, 1, 0, 3);
        check.due("without first numbers not unlike at 4", house.picked(0, 0), 0);
        check.due("the partner", house.why(1, 0, 0), 7);
        house.rule(0, 4, false);
        check.due("plain likewise", house.picked(0, 0), 0);
    }

    private static void why(Check check) {
        DomainHouse house = star(3);
        Check.policy(house, "bar;");
        check.due("nothing is heard", house.why(0, 0, 0), Check.NONE);
        hear(house, 0, 0, 0, 1);
        hear(house, 1, 0, 0, 2, 0);
        hear(house, 2, 0, 0, 3);
        house.use(2, 0, 0, 0);
        check.due("it is", house.why(0, 0, 0), 0);
        check.due("its own number", house.why(1, 0, 0), 9);
        check.due("barred", house.why(2, 0, 0), 10);
        house.use(1, 0, 0, 0);
        check.due("its own number stands ahead of barred", house.why(1, 0, 0), 9);
        house.announce(0, 0, 0);
        for (int tie = 0; tie < 3; tie++) {
            check.due("own is", house.why(tie, 0, 0), 8);
        }
        check.due("the other side heard nothing yet", house.why(0, 1, 0), Check.NONE);
    }

    private static void wrongNumbers(Check check) {
        DomainHouse house = chain(2);
        house.announce(0, 0, 0);
        house.go(ALL);
        house.picked(1, 0);
        check.due("picked", house.picked(2, 0), Check.BAD);
        check.due("picked", house.picked(0, 1), Check.BAD);
        check.due("picked", house.picked(0, -1), Check.BAD);
        check.due("heard tie", house.heard(1, 0, 0, 0), Check.BAD);
        check.due("heard side", house.heard(0, 2, 0, 0), Check.BAD);
        check.due("heard prefix", house.heard(0, 0, 1, 0), Check.BAD);
        check.due("heard what", house.heard(0, 0, 0, 2), Check.BAD);
        check.due("heard what", house.heard(0, 0, 0, -1), Check.BAD);
        check.due("why tie", house.why(1, 0, 0), Check.BAD);
        check.due("why side", house.why(0, -1, 0), Check.BAD);
        check.due("why prefix", house.why(0, 0, 1), Check.BAD);
        check.due("three", house.three(0, -1, 0), Check.BAD);
        check.due("in hand is still what 1 picked", house.hand(10), 0);
    }
}
