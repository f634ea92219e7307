/** The edges of promises 13 to 16 and of part 2 of the terms: days, rights, verdicts, what a route may be. */
public final class EdgesOfRightsTest {
    private static final int LEAST = Integer.MIN_VALUE;
    private static final int MOST = Integer.MAX_VALUE;
    private static final int TEN = Scene.TEN;

    public static void main(String[] args) {
        Check check = new Check("EdgesOfRightsTest");
        days(check);
        wrongDays(check);
        todayIsLookedAt(check);
        rightsAtTheirEdges(check);
        wrongRights(check);
        thirtyRights(check);
        strikes(check);
        wrongStrikes(check);
        struckAlready(check);
        holdsAtADay(check);
        knownAtADay(check);
        lastDays(check);
        greatestLength(check);
        whoseNumber(check);
        oneOfAll(check);
        wrongVerdicts(check);
        beginner(check);
        wayOfTwenty(check);
        numbersOfARoute(check);
        marks(check);
        check.end();
    }

    private static DomainHouse house() {
        DomainHouse house = new DomainHouse();
        house.prefix(TEN, 8);
        house.prefix(TEN, 16);
        house.prefix(TEN, 24);
        Check.domains(house, 3);
        return house;
    }

    private static void days(Check check) {
        check.promise(13, "TODAY is another day from now on: what it was.");
        DomainHouse house = new DomainHouse();
        check.due("at first", house.today(0), 0);
        check.due("a day", house.today(1), 0);
        check.due("the last day", house.today(MOST), 1);
        check.due("back again", house.today(0), MOST);
        check.due("the same day", house.today(0), 0);
    }

    private static void wrongDays(Check check) {
        check.promise(13, "BAD: day is below 0.");
        DomainHouse house = new DomainHouse();
        house.today(7);
        int[] wrong = {-1, LEAST, Check.NONE};
        for (int day : wrong) {
            check.due("today " + day, house.today(day), Check.BAD);
            check.due("it stays", house.count(11), 7);
        }
    }

    /** A refused day says nothing; one that is told says all over ties that nothing was said over. */
    private static void todayIsLookedAt(Check check) {
        check.promise(13, "TODAY is another day from now on: what it was.");
        DomainHouse house = new DomainHouse();
        house.prefix(TEN, 8);
        Check.domains(house, 2);
        house.announce(0, 0, 0);
        house.tie(0, 1, 0);
        house.today(-1);
        check.due("refused: nothing is SAID", house.count(8), 0);
        house.today(0);
        check.due("the same day: all SAY all", house.count(8), 1);
    }

    private static void rightsAtTheirEdges(Check check) {
        check.promise(14, "A RIGHT: its number.");
        DomainHouse house = house();
        check.due("most is the LENGTH", house.right(1, 16, 0, 0, 1, 0), 0);
        check.due("most is 32", house.right(1, 32, 0, 0, 1, 0), 1);
        check.due("one day", house.right(0, 8, 2, MOST - 1, MOST, MOST), 2);
        check.due("all days", house.right(2, 24, 0, 0, MOST, 0), 3);
        house.prefix(0, 0);
        house.prefix(-1, 32);
        check.due("LENGTH 0, most 0", house.right(3, 0, 0, 0, 1, 0), 4);
        check.due("LENGTH 32, most 32", house.right(4, 32, 0, 0, 1, 0), 5);
    }

    private static void wrongRights(Check check) {
        check.promise(14, "BAD: no such PREFIX, DOMAIN; most is not the LENGTH .. 32; from is below 0, to not above it; known is below 0.");
        DomainHouse house = house();
        int[][] wrong = {
            {-1, 32, 0, 0, 1, 0}, {3, 32, 0, 0, 1, 0}, {LEAST, 32, 0, 0, 1, 0}, {MOST, 32, 0, 0, 1, 0},
            {1, 32, -1, 0, 1, 0}, {1, 32, 3, 0, 1, 0}, {1, 32, LEAST, 0, 1, 0}, {1, 32, MOST, 0, 1, 0},
            {1, 15, 0, 0, 1, 0}, {1, 33, 0, 0, 1, 0}, {1, -1, 0, 0, 1, 0}, {1, LEAST, 0, 0, 1, 0}, {1, MOST, 0, 0, 1, 0},
            {1, 32, 0, -1, 1, 0}, {1, 32, 0, LEAST, 1, 0}, {1, 32, 0, -2, -1, 0}, {1, 32, 0, 0, 0, 0}, {1, 32, 0, 5, 5, 0},
            {1, 32, 0, 5, 4, 0}, {1, 32, 0, MOST, MOST, 0}, {1, 32, 0, MOST, LEAST, 0}, {1, 32, 0, 0, -1, 0},
            {1, 32, 0, 0, 1, -1}, {1, 32, 0, 0, 1, LEAST},
        };
        for (int[] one : wrong) {
            int answer = house.right(one[0], one[1], one[2], one[3], one[4], one[5]);
            check.due("right " + java.util.Arrays.toString(one), answer, Check.BAD);
        }
        check.due("none came", house.count(3), 0);
        check.due("nothing changed", house.verdict(1, 0, 0, 0), 2);
    }

    private static void thirtyRights(Check check) {
        check.promise(14, "FULL.");
        check.term(2, "RIGHTS (30)");
        DomainHouse house = house();
        for (int i = 0; i < 29; i++) {
            check.due("right", house.right(1, 16, 0, 0, 1, 0), i);
        }
        check.due("the 30th", house.right(1, 16, 1, 0, 1, 0), 29);
        check.due("the 31st", house.right(1, 16, 2, 0, 1, 0), Check.FULL);
        check.due("BAD stands ahead of it", house.right(1, 15, 2, 0, 1, 0), Check.BAD);
        check.due("30", house.count(3), 30);
        check.due("the 30th counts", house.verdict(1, 1, 0, 0), 1);
        check.due("the 31st does not", house.verdict(1, 2, 0, 0), 0);
        check.due("the 30th can be struck", house.strike(29, 0), 0);
        check.due("there is no 31st", house.strike(30, 0), Check.BAD);
        check.due("struck ones are still there", house.right(1, 16, 2, 0, 1, 0), Check.FULL);
    }

    private static void strikes(Check check) {
        check.promise(15, "A RIGHT is known until ahead of a day: 0.");
        check.term(2, "known from a day on, and, when struck, until ahead of a day.");
        DomainHouse house = house();
        house.right(1, 16, 0, 0, 9, 10);
        check.due("strike", house.strike(0, 12), 0);
        int[] want = {2, 1, 1, 2, 2};
        for (int i = 0; i < want.length; i++) {
            check.due("known at " + (9 + i), house.verdict(1, 0, 0, 9 + i), want[i]);
        }
    }

    private static void wrongStrikes(Check check) {
        check.promise(15, "BAD: none such; day is below that from which it is known.");
        DomainHouse house = house();
        check.due("there is none", house.strike(0, 0), Check.BAD);
        house.right(1, 16, 0, 0, 9, 10);
        int[][] wrong = {{-1, 10}, {1, 10}, {LEAST, 10}, {MOST, 10}, {0, 9}, {0, 0}, {0, -1}, {0, LEAST}};
        for (int[] one : wrong) {
            check.due("strike " + java.util.Arrays.toString(one), house.strike(one[0], one[1]), Check.BAD);
        }
        check.due("it is not struck", house.verdict(1, 0, 0, MOST), 1);
        check.due("the day itself", house.strike(0, 10), 0);
        check.due("it is never known then", house.verdict(1, 0, 0, 10), 2);
        house.right(1, 16, 0, 0, 9, 0);
        check.due("known from 0, struck at 0", house.strike(1, 0), 0);
        house.right(1, 16, 0, 0, 9, MOST);
        check.due("below the last day", house.strike(2, MOST - 1), Check.BAD);
        check.due("the last day", house.strike(2, MOST), 0);
        check.due("never known", house.verdict(1, 0, 0, MOST), 2);
    }

    private static void struckAlready(Check check) {
        check.promise(15, "NO: it is struck already.");
        DomainHouse house = house();
        house.right(1, 16, 0, 0, 9, 0);
        house.strike(0, 5);
        check.due("later", house.strike(0, 6), Check.NO);
        check.due("earlier", house.strike(0, 0), Check.NO);
        check.due("the same", house.strike(0, 5), Check.NO);
        check.due("BAD stands ahead of it", house.strike(0, -1), Check.BAD);
        check.due("known at 4", house.verdict(1, 0, 0, 4), 1);
        check.due("not at 5", house.verdict(1, 0, 0, 5), 2);
        house.right(1, 16, 0, 0, 9, 0);
        house.strike(1, 0);
        check.due("struck at 0 is struck", house.strike(1, 3), Check.NO);
    }

    private static void holdsAtADay(Check check) {
        check.term(2, "from a day on, until ahead of another one;");
        check.term(2, "THE VERDICT on a PREFIX and a number, at a day, by what is known at a day: of all RIGHTS that hold at that day,");
        DomainHouse house = house();
        house.right(1, 16, 0, 10, 12, 0);
        int[] want = {2, 1, 1, 2, 2};
        for (int i = 0; i < want.length; i++) {
            check.due("at " + (9 + i), house.verdict(1, 0, 9 + i, 0), want[i]);
            check.due("another number at " + (9 + i), house.verdict(1, 1, 9 + i, 0), want[i] == 1 ? 0 : 2);
        }
        check.due("at 0", house.verdict(1, 0, 0, 0), 2);
        check.due("at the last day", house.verdict(1, 0, MOST, 0), 2);
    }

    private static void knownAtADay(Check check) {
        check.term(2, "are known at that one,");
        DomainHouse house = house();
        house.right(1, 16, 0, 0, 5, 10);
        check.due("known at 9", house.verdict(1, 0, 4, 9), 2);
        check.due("known at 10", house.verdict(1, 0, 4, 10), 1);
        check.due("for good", house.verdict(1, 0, 4, MOST), 1);
        check.due("day and knowledge are two things", house.verdict(1, 0, 10, 4), 2);
    }

    private static void lastDays(Check check) {
        check.term(2, "from a day on, until ahead of another one; known from a day on,");
        DomainHouse house = house();
        house.right(1, 16, 0, MOST - 1, MOST, MOST);
        check.due("its one day", house.verdict(1, 0, MOST - 1, MOST), 1);
        check.due("ahead of the last one", house.verdict(1, 0, MOST, MOST), 2);
        check.due("the day ahead", house.verdict(1, 0, MOST - 2, MOST), 2);
        check.due("not known yet", house.verdict(1, 0, MOST - 1, MOST - 1), 2);
        house.right(2, 24, 0, 0, 1, 0);
        check.due("the first day", house.verdict(2, 0, 0, 0), 1);
        check.due("the second day", house.verdict(2, 0, 1, 0), 2);
    }

    private static void greatestLength(Check check) {
        check.term(2, "say that a DOMAIN may begin PREFIXES that a PREFIX HOLDS, to a greatest LENGTH;");
        check.term(2, "and whose PREFIX HOLDS it: 2 there are none; 1 one is of that number and its greatest LENGTH is not below; else 0.");
        int[][] each = {{8, 1, 0, 0}, {15, 1, 0, 0}, {16, 1, 1, 0}, {23, 1, 1, 0}, {24, 1, 1, 1}, {32, 1, 1, 1}};
        for (int[] one : each) {
            DomainHouse house = house();
            house.right(0, one[0], 0, 0, 1, 0);
            for (int p = 0; p < 3; p++) {
                check.due("most " + one[0] + ", prefix " + p, house.verdict(p, 0, 0, 0), one[1 + p]);
            }
        }
        DomainHouse none = house();
        check.due("without RIGHTS", none.verdict(0, 0, 0, 0), 2);
        none.right(2, 32, 0, 0, 1, 0);
        check.due("one of a longer PREFIX", none.verdict(1, 0, 0, 0), 2);
    }

    private static void whoseNumber(Check check) {
        check.promise(16, "(number: any.)");
        DomainHouse house = house();
        house.right(1, 16, 0, 0, 1, 0);
        int[] others = {1, 2, 3, 9, 10, -1, LEAST, MOST, Check.NONE};
        for (int number : others) {
            check.due("number " + number, house.verdict(1, number, 0, 0), 0);
            check.due("without a RIGHT", house.verdict(0, number, 0, 0), 2);
        }
        check.due("number 0", house.verdict(1, 0, 0, 0), 1);
    }

    private static void oneOfAll(Check check) {
        check.promise(16, "THE VERDICT.");
        DomainHouse house = house();
        house.right(0, 15, 0, 0, 1, 0);
        house.right(0, 32, 1, 0, 1, 0);
        check.due("the one's number and the other's LENGTH", house.verdict(1, 0, 0, 0), 0);
        check.due("both of one", house.verdict(1, 1, 0, 0), 1);
        house.right(1, 16, 0, 1, 2, 0);
        check.due("one that holds at another day", house.verdict(1, 0, 0, 0), 0);
        house.right(1, 16, 0, 0, 1, 1);
        check.due("one that is not known", house.verdict(1, 0, 0, 0), 0);
        house.right(1, 16, 0, 0, 1, 0);
        check.due("the last of five", house.verdict(1, 0, 0, 0), 1);
        house.right(1, 16, 2, 0, 1, 0);
        check.due("one behind it changes nothing", house.verdict(1, 0, 0, 0), 1);
    }

    private static void wrongVerdicts(Check check) {
        check.promise(16, "BAD: no such PREFIX; a day is below 0.");
        DomainHouse house = house();
        int[][] wrong = {{-1, 0, 0}, {3, 0, 0}, {LEAST, 0, 0}, {MOST, 0, 0}, {0, -1, 0}, {0, LEAST, 0}, {0, 0, -1}, {0, 0, LEAST}};
        for (int[] one : wrong) {
            check.due("verdict " + java.util.Arrays.toString(one), house.verdict(one[0], 0, one[1], one[2]), Check.BAD);
        }
        check.due("the last ones", house.verdict(2, 0, MOST, MOST), 2);
    }

    private static void beginner(Check check) {
        check.term(2, "Its BEGINNER is the last number of its WAY (without one: the DOMAIN that looks at it).");
        DomainHouse house = house();
        house.tie(0, 1, 0);
        Check.policy(house, "if right valid then bar;");
        house.right(1, 16, 1, 0, 1, 0);
        int[][] ways = {{1}, {0, 1}, {1, 0}, {0}, {}};
        int[] want = {0, 0, 1, 1, 1};
        for (int i = 0; i < ways.length; i++) {
            Check.walk(house, ways[i]);
            house.route(1, 100, 0, 0);
            check.due("looked at by 0, way " + i, house.judge(0, 0, 1), want[i]);
        }
        check.due("empty, looked at by 1", house.judge(0, 1, 0), 0);
    }

    private static void wayOfTwenty(Check check) {
        check.term(2, "A ROUTE is of a PREFIX and has a WAY (numbers, 20 at most, the nearest first),");
        DomainHouse house = Scene.chain(2);
        house.walk(-1);
        for (int i = 0; i < 20; i++) {
            house.walk(i / 2);
        }
        check.due("route", house.route(0, 0, 0, 0), 0);
        check.due("20 numbers", house.hand(4), 20);
        for (int i = 0; i < 20; i++) {
            check.due("number " + i, house.hand(10 + i), i / 2);
        }
        check.due("none behind", house.hand(30), Check.NONE);
    }

    private static void numbersOfARoute(Check check) {
        check.term(2, "a WISH (0 .. 1000), an ORIGIN (0 .. 2), a COST (0 .. 1000000),");
        DomainHouse house = Scene.chain(2);
        check.due("the greatest", house.route(0, 1000, 2, 1000000), 0);
        check.due("wish", house.hand(1), 1000);
        check.due("origin", house.hand(2), 2);
        check.due("cost", house.hand(3), 1000000);
        check.due("the least", house.route(0, 0, 0, 0), 0);
        check.due("wish", house.hand(1), 0);
        check.due("origin", house.hand(2), 0);
        check.due("cost", house.hand(3), 0);
    }

    private static void marks(Check check) {
        check.term(2, "MARKS (a set, 8 at most, of 0 .. 65535).");
        DomainHouse house = Scene.chain(2);
        house.route(0, 0, 0, 0);
        Check.policy(house, "add 65535,add 0,add 65535,add 7,add 6,add 5,add 4,add 3,add 2,add 1;");
        house.judge(0, 0, 1);
        check.dueRow("a set of eight", i -> house.hand(100 + i), 0, 2, 3, 4, 5, 6, 7, 65535);
    }
}
