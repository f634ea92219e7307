/** The edges of part 3 of the terms from "GONE THROUGH" on: what each test and act of a policy does at its limits. */
public final class EdgesOfGoingTest {
    public static void main(String[] args) {
        Check check = new Check("EdgesOfGoingTest");
        rowsInOrder(check);
        inHolds(check);
        inLengths(check);
        emptyWays(check);
        wholeWays(check);
        waysApart(check);
        repeats(check);
        anyNumber(check);
        waysOfTwenty(check);
        markTests(check);
        fromTests(check);
        tieTests(check);
        lengthTests(check);
        wishAndCostTests(check);
        originTests(check);
        rightTests(check);
        letAndBar(check);
        ninthMark(check);
        drops(check);
        moreToTwenty(check);
        moreOfAnEmptyWay(check);
        calls(check);
        callsInARow(check);
        fiveHundredActs(check);
        callsCountToo(check);
        overWithoutThese(check);
        check.end();
    }

    private static DomainHouse house() {
        DomainHouse house = new DomainHouse();
        house.prefix(0, 0);
        house.prefix(10 << 24, 8);
        house.prefix(10 << 24 | 1 << 16, 16);
        house.prefix(-1, 32);
        Check.domains(house, 5);
        house.tie(0, 1, 0);
        house.tie(1, 2, 0);
        house.tie(1, 3, 1);
        house.tie(4, 1, 2);
        return house;
    }

    private static int judged(DomainHouse house, String text) {
        int number = Check.policy(house, text);
        return number < 0 ? number : house.judge(number, 1, 0);
    }

    /** Whether a test is so for the route in hand: its policy bars then. */
    private static void so(Check check, DomainHouse house, String test, boolean want) {
        check.due(test, judged(house, "if " + test + " then bar;"), want ? 0 : 1);
    }

    private static DomainHouse routed(int prefix, int wish, int origin, int cost, int... way) {
        DomainHouse house = house();
        Check.walk(house, way);
        house.route(prefix, wish, origin, cost);
        return house;
    }

    private static void rowsInOrder(Check check) {
        check.term(3, "GONE THROUGH by a DOMAIN for a ROUTE and a partner: rows in order: if all TESTS are so (without any, too), its ACTS, in order.");
        DomainHouse house = routed(1, 50, 0, 0);
        check.due("the second row sees what the first one did", judged(house, "wish 51;if wish=51 then cost 3;"), 1);
        check.due("cost", house.hand(3), 3);
        check.due("not all TESTS are so", judged(house, "if wish=51 and cost=4 then bar;if wish=52 and cost=3 then bar;"), 1);
        check.due("all of three", judged(house, "if wish=51 and cost=3 and origin 0 then bar;"), 0);
        check.due("the third is not", judged(house, "if wish=51 and cost=3 and origin 1 then bar;"), 1);
        check.due("without any", judged(house, "bar;"), 0);
        check.due("ACTS in order", judged(house, "wish 1,wish 2,wish 3;"), 1);
        check.due("the last one", house.hand(1), 3);
        check.due("the 30th row, too", judged(house, "wish 4;".repeat(29) + "bar;"), 0);
    }

    private static void inHolds(Check check) {
        check.term(3, "in: the PREFIX is HELD by that one,");
        DomainHouse house = routed(2, 0, 0, 0);
        so(check, house, "in 10.1.0.0/16", true);
        so(check, house, "in 10.1.0.0/17", false);
        so(check, house, "in 10.0.0.0/15", true);
        so(check, house, "in 10.0.0.0/16", false);
        so(check, house, "in 0.0.0.0/0", true);
        so(check, house, "in 138.0.0.0/7", false);
        DomainHouse last = routed(3, 0, 0, 0);
        so(check, last, "in 255.255.255.255/32", true);
        so(check, last, "in 255.255.255.254/31", true);
        so(check, last, "in 255.255.255.254/32", false);
        so(check, last, "in 128.0.0.0/1", true);
        so(check, last, "in 0.0.0.0/1", false);
        DomainHouse all = routed(0, 0, 0, 0);
        so(check, all, "in 0.0.0.0/0", true);
        so(check, all, "in 0.0.0.0/1", false);
    }

    private static void inLengths(Check check) {
        check.term(3, "its LENGTH is not above the second number (without to: 32).");
        DomainHouse house = routed(2, 0, 0, 0);
        so(check, house, "in 10.0.0.0/8 to 15", false);
        so(check, house, "in 10.0.0.0/8 to 16", true);
        so(check, house, "in 10.0.0.0/8 to 17", true);
        so(check, house, "in 10.1.0.0/16 to 16", true);
        so(check, house, "in 11.0.0.0/8 to 32", false);
        DomainHouse last = routed(3, 0, 0, 0);
        so(check, last, "in 0.0.0.0/0", true);
        so(check, last, "in 0.0.0.0/0 to 32", true);
        so(check, last, "in 0.0.0.0/0 to 31", false);
        DomainHouse all = routed(0, 0, 0, 0);
        so(check, all, "in 0.0.0.0/0 to 0", true);
    }

    private static void way(Check check, String pattern, boolean want, int... numbers) {
        so(check, routed(1, 0, 0, 0, numbers), "way(" + pattern + ")", want);
    }

    private static void emptyWays(Check check) {
        check.term(3, "way: the whole WAY is as the ANY tells");
        String[] empty = {"", "|", "()", "1*", "1?", "any*", "(1*)+", "(1|)", "()+", "1? 2? 3?", "7|", "(1 2)*"};
        for (String pattern : empty) {
            way(check, pattern, true);
        }
        String[] not = {"1", "any", "1+", "1|2", "1* 2", "(1|2)+", "1? any"};
        for (String pattern : not) {
            way(check, pattern, false);
        }
        String[] emptyAlone = {"", "|", "()", "()*", "(|)+", "()?()"};
        for (String pattern : emptyAlone) {
            way(check, pattern, false, 1);
        }
    }

    private static void wholeWays(Check check) {
        check.term(3, "way: the whole WAY is as the ANY tells");
        way(check, "1 2", true, 1, 2);
        way(check, "1 2", false, 1);
        way(check, "1 2", false, 2);
        way(check, "1 2", false, 1, 2, 3);
        way(check, "1 2", false, 0, 1, 2);
        way(check, "1 2|3", true, 3);
        way(check, "1 2|3", false, 1, 3);
        way(check, "1(2|3)4", true, 1, 3, 4);
        way(check, "1(2|3)4", false, 1, 2, 3, 4);
        way(check, "1(2|)4", true, 1, 4);
        way(check, "1(2|3)4", false, 1, 1, 2, 4);
        way(check, "1(2)4", false, 1, 1, 2, 4);
        way(check, "1(2|3)", false, 1, 1, 3);
        way(check, "1(2|3)4", true, 1, 2, 4);
        way(check, "1(2|3)4", false, 1, 4);
        way(check, "1|2", true, 1);
        way(check, "1|2", true, 2);
        way(check, "1|2|3", true, 1);
        way(check, "1|2|3", true, 2);
        way(check, "1|2", false, 1, 2);
        way(check, "(1|2)3", true, 1, 3);
        way(check, "(1|2)3", true, 2, 3);
        way(check, "(1|2)3", false, 1, 2, 3);
        way(check, "(1|2)(3|4)", true, 1, 4);
        way(check, "(1|2)(3|4)", true, 2, 3);
        way(check, "3(1|2)", true, 3, 1);
        way(check, "01", true, 1);
        way(check, "11", false, 1, 1);
    }

    /** Several ways in one text, and several texts in one house, know nothing of one another. */
    private static void waysApart(Check check) {
        check.term(3, "way: the whole WAY is as the ANY tells");
        DomainHouse house = routed(1, 0, 0, 0, 1, 2);
        check.due("1 2", judged(house, "if way(1 2)then bar;"), 0);
        check.due("not 1, not 2, in another text", judged(house, "if way(1|2)then bar;"), 1);
        check.due("not 2 1", judged(house, "if way(2 1)then bar;"), 1);
        check.due("not 1, not 2, in one text", judged(house, "if way(1)then bar;if way(2)then bar;if way()then bar;"), 1);
        check.due("the second of one row", judged(house, "if way(any any)and way(1 2)then bar;"), 0);
        check.due("not the second", judged(house, "if way(1 2)and way(2 2)then bar;"), 1);
        String many = "if " + "way(any*)and ".repeat(40) + "way(1 2)then bar;";
        check.due("41 ways", judged(house, many.replace("any", "")), -10 - 7);
        String empty = "if " + "not way()and ".repeat(75) + "not way()then bar;";
        for (int i = 0; i < 5; i++) {
            check.due("76 ways in each of five texts", judged(house, empty), 0);
        }
    }

    private static void repeats(Check check) {
        check.term(3, "(* as often as wanted, + at least once, ? once or not;");
        int[][] ways = {{}, {1}, {1, 1}, {1, 1, 1}};
        boolean[][] want = {{true, true, true, true}, {false, true, true, true}, {true, true, false, false}, {false, true, false, false}};
        String[] signs = {"1*", "1+", "1?", "1"};
        for (int i = 0; i < signs.length; i++) {
            for (int k = 0; k < ways.length; k++) {
                way(check, signs[i], want[i][k], ways[k]);
                way(check, "(" + signs[i] + ")", want[i][k], ways[k]);
            }
        }
        way(check, "(1 2)*", true, 1, 2, 1, 2);
        way(check, "(1 2)*", false, 1, 2, 1);
        way(check, "(1 2)?", true, 1, 2);
        way(check, "(1 2)?", false, 1, 2, 1, 2);
        way(check, "(1 2)+ 1", true, 1, 2, 1);
        way(check, "1* 1", true, 1);
        way(check, "1* 1 1", false, 1);
        way(check, "(1* 2)*", true, 2, 1, 2, 1, 1, 2);
        way(check, "(1?)+ 2", true, 1, 1, 1, 2);
    }

    private static void anyNumber(Check check) {
        check.term(3, "any is any one number).");
        way(check, "any", true, 0);
        way(check, "any", true, 9);
        way(check, "any", false);
        way(check, "any", false, 1, 2);
        DomainHouse house = house();
        int[] numbers = {-1, Integer.MIN_VALUE, Integer.MAX_VALUE, 1000000, 1000001, 0};
        Check.policy(house, "if way(any) then add 1;if way(1000000) then add 2;if way(0) then add 3;");
        house.use(0, 1, 0, 0);
        for (int number : numbers) {
            Wire.hear(house, 0, 1, new Wire().origin(0).way(number).announce(10 << 24, 8));
            house.picked(1, 1);
            check.due("any is " + number, house.hand(100), 1);
            check.due("another MARK by " + number, house.hand(101), number == 1000000 ? 2 : number == 0 ? 3 : Check.NONE);
        }
    }

    private static void waysOfTwenty(Check check) {
        check.term(3, "way: the whole WAY is as the ANY tells");
        int[] twenty = {1, 2, 3, 4, 5, 6, 7, 8, 9, 0, 1, 2, 3, 4, 5, 6, 7, 8, 9, 0};
        way(check, "1 2 3 4 5 6 7 8 9 0 1 2 3 4 5 6 7 8 9 0", true, twenty);
        way(check, "1 2 3 4 5 6 7 8 9 0 1 2 3 4 5 6 7 8 9 1", false, twenty);
        way(check, "1 2 3 4 5 6 7 8 9 0 1 2 3 4 5 6 7 8 9", false, twenty);
        way(check, "any* 9 0", true, twenty);
        way(check, "(1 2 3 4 5 6 7 8 9 0)+", true, twenty);
        way(check, "(1 2 3 4 5 6 7 8 9 0)?", false, twenty);
        String forty = "any? ".repeat(40);
        way(check, forty, true, twenty);
        way(check, "8? ".repeat(39) + "any*", true, twenty);
        way(check, "8? ".repeat(39) + "0", false, twenty);
        DomainHouse house = routed(1, 0, 0, 0, 0);
        String first = "if way(" + "8?".repeat(39) + ")then bar;";
        check.due("the 40th place is one of its own", judged(house, first + "if way(0)then cost 5,bar;"), 0);
        check.due("by the second row", house.hand(3), 5);
    }

    private static void markTests(Check check) {
        check.term(3, "mark: it has it.");
        DomainHouse house = routed(1, 0, 0, 0);
        so(check, house, "mark 0", false);
        judged(house, "add 0,add 65535;");
        so(check, house, "mark 0", true);
        so(check, house, "mark 65535", true);
        so(check, house, "mark 1", false);
        so(check, house, "not mark 65534", true);
    }

    private static void fromTests(Check check) {
        check.term(3, "from: the partner is it.");
        DomainHouse house = routed(1, 0, 0, 0);
        so(check, house, "from 0", true);
        so(check, house, "from 1", false);
        so(check, house, "from 9", false);
        Check.policy(house, "if from 4 then bar;");
        check.due("partner 4", house.judge(3, 1, 4), 0);
        check.due("DOMAIN 4", house.judge(3, 4, 1), 1);
    }

    private static void tieTests(Check check) {
        check.term(3, "tie: what the partner is to the DOMAIN.");
        DomainHouse house = routed(1, 0, 0, 0);
        String[] words = {"customer", "provider", "equal", "kin"};
        int[][] pairs = {{0, 1}, {1, 0}, {1, 3}, {3, 1}, {1, 4}, {4, 1}, {1, 2}, {2, 1}};
        int[] want = {0, 1, 2, 2, 3, 3, 0, 1};
        for (int w = 0; w < words.length; w++) {
            int policy = Check.policy(house, "if tie " + words[w] + " then bar;");
            for (int i = 0; i < pairs.length; i++) {
                check.due(words[w] + " " + i, house.judge(policy, pairs[i][0], pairs[i][1]), want[i] == w ? 0 : 1);
            }
        }
    }

    private static void relations(Check check, DomainHouse house, String name, int number) {
        so(check, house, name + "=" + number, true);
        so(check, house, name + "<" + number, false);
        so(check, house, name + ">" + number, false);
        so(check, house, name + "<" + (number + 1), true);
        so(check, house, name + "=" + (number + 1), false);
        so(check, house, name + ">" + (number + 1), false);
        if (number > 0) {
            so(check, house, name + ">" + (number - 1), true);
            so(check, house, name + "=" + (number - 1), false);
            so(check, house, name + "<" + (number - 1), false);
        }
    }

    private static void lengthTests(Check check) {
        check.term(3, "length: how many numbers the WAY has.");
        relations(check, routed(1, 0, 0, 0), "length", 0);
        relations(check, routed(1, 0, 0, 0, 5), "length", 1);
        relations(check, routed(1, 0, 0, 0, new int[20]), "length", 20);
        so(check, routed(1, 0, 0, 0, new int[20]), "length<1000000", true);
    }

    private static void wishAndCostTests(Check check) {
        check.term(3, "TEST: not TEST |");
        relations(check, routed(1, 0, 0, 7), "wish", 0);
        relations(check, routed(1, 999, 0, 7), "wish", 999);
        relations(check, routed(1, 7, 0, 0), "cost", 0);
        relations(check, routed(1, 7, 0, 999999), "cost", 999999);
        DomainHouse most = routed(1, 1000, 0, 1000000);
        so(check, most, "wish=1000", true);
        so(check, most, "wish<1000", false);
        so(check, most, "wish>1000", false);
        so(check, most, "cost=1000000", true);
        so(check, most, "cost<1000000", false);
        so(check, most, "cost>1000000", false);
        so(check, most, "not cost>1000000", true);
        so(check, most, "not not cost>1000000", false);
        so(check, most, "not not not cost>1000000", true);
    }

    private static void originTests(Check check) {
        check.term(3, "| origin NUMBER |");
        for (int origin = 0; origin <= 2; origin++) {
            DomainHouse house = routed(1, 0, origin, 0);
            for (int asked = 0; asked <= 2; asked++) {
                so(check, house, "origin " + asked, asked == origin);
            }
        }
    }

    private static void rightTests(Check check) {
        check.term(3, "right: THE VERDICT on the PREFIX and BEGINNER, at and by TODAY (valid 1, unknown 2, bad 0).");
        DomainHouse house = routed(1, 0, 0, 0, 2, 0);
        house.right(1, 8, 0, 10, 20, 12);
        house.strike(0, 18);
        Check.policy(house, "if right valid then add 1;if right unknown then add 2;if right bad then add 3;");
        int[] days = {0, 9, 10, 11, 12, 17, 18, 19, 20};
        for (int day : days) {
            house.today(day);
            house.route(1, 0, 0, 0);
            house.judge(0, 1, 0);
            check.due("at " + day, house.hand(100), day >= 12 && day < 18 ? 1 : 2);
            check.due("one of them", house.hand(5), 1);
        }
        house.today(15);
        Check.walk(house, 0, 2);
        house.route(1, 0, 0, 0);
        house.judge(0, 1, 0);
        check.due("another BEGINNER", house.hand(100), 3);
    }

    private static void letAndBar(Check check) {
        check.term(3, "let, bar: the ROUTE is let or barred, it is over.");
        DomainHouse house = routed(1, 0, 0, 0);
        check.due("let", judged(house, "let,cost 1;bar;"), 1);
        check.due("the next ACT is not done", house.hand(3), 0);
        check.due("bar", judged(house, "bar,cost 1;let;"), 0);
        check.due("the next ACT is not done", house.hand(3), 0);
        check.due("in a row that is not so", judged(house, "if cost=1 then bar;if cost=0 then let;bar;"), 1);
    }

    private static void ninthMark(Check check) {
        check.term(3, "add: a MARK more (a ninth one does not come);");
        DomainHouse house = routed(1, 0, 0, 0);
        judged(house, "add 10,add 20,add 30,add 40,add 50,add 60,add 70;");
        check.due("seven", house.hand(5), 7);
        judged(house, "add 80;");
        check.due("eight", house.hand(5), 8);
        judged(house, "add 5,add 45,add 90,add 10,add 80;");
        check.dueRow("still these eight", i -> house.hand(100 + i), 10, 20, 30, 40, 50, 60, 70, 80);
        judged(house, "drop 80,add 5;");
        check.dueRow("after a drop there is room", i -> house.hand(100 + i), 5, 10, 20, 30, 40, 50, 60, 70);
        check.due("it goes on behind a ninth", judged(house, "add 99,bar;"), 0);
    }

    private static void drops(Check check) {
        check.term(3, "drop: one less.");
        DomainHouse house = routed(1, 0, 0, 0);
        check.due("of none", judged(house, "drop 0;"), 1);
        check.due("none", house.hand(5), 0);
        judged(house, "add 0,add 3,add 65535,drop 4;");
        check.dueRow("one that is not there", i -> house.hand(100 + i), 0, 3, 65535);
        judged(house, "drop 0;");
        check.dueRow("the first", i -> house.hand(100 + i), 3, 65535);
        judged(house, "drop 65535,drop 65535;");
        check.dueRow("the last", i -> house.hand(100 + i), 3);
        judged(house, "drop 3;");
        check.due("all", house.hand(5), 0);
    }

    private static void moreToTwenty(Check check) {
        check.term(3, "more: the WAY's first number so many times more in front");
        DomainHouse house = routed(1, 0, 0, 0, 7, 8);
        check.due("once", judged(house, "more 1;"), 1);
        check.dueRow("way", i -> house.hand(10 + i), 7, 7, 8);
        check.due("nine times", judged(house, "more 9;"), 1);
        check.due("12 numbers", house.hand(4), 12);
        check.due("eight more", judged(house, "more 8;"), 1);
        check.due("20 numbers", house.hand(4), 20);
        check.due("the 19th", house.hand(28), 7);
        check.due("the 20th", house.hand(29), 8);
        check.term(3, "above 20: barred, over).");
        check.due("21", judged(house, "cost 1,more 1,cost 2;let;"), 0);
        check.due("the ACT ahead was done", house.hand(3), 1);
        check.due("the WAY stays", house.hand(4), 20);
        DomainHouse other = routed(1, 0, 0, 0, new int[12]);
        check.due("12 and 9", judged(other, "more 9;"), 0);
        check.due("12", other.hand(4), 12);
        check.due("12 and 8", judged(other, "more 8;"), 1);
        check.due("20", other.hand(4), 20);
    }

    private static void moreOfAnEmptyWay(Check check) {
        check.term(3, "(an empty WAY stays;");
        DomainHouse house = routed(1, 0, 0, 0);
        check.due("as often as wanted", judged(house, "more 9,more 9,more 9,cost 4;"), 1);
        check.due("empty", house.hand(4), 0);
        check.due("it goes on", house.hand(3), 4);
    }

    private static void calls(Check check) {
        check.term(3, "call: that POLICY is gone through; if it was over by let, bar, so is this one.");
        DomainHouse house = routed(1, 0, 0, 0);
        Check.policy(house, "if cost=0 then cost 1;if cost=9 then let;if cost=8 then bar;");
        check.due("not over", judged(house, "call 0;bar;"), 0);
        check.due("what it did stays", house.hand(3), 1);
        check.due("over by let", judged(house, "cost 9,call 0,bar;bar;"), 1);
        check.due("over by bar", judged(house, "cost 8,call 0,let;let;"), 0);
        check.due("an empty one", judged(house, "cost 2;"), 1);
        check.due("twice", judged(house, "cost 0,call 0,cost 8,call 0,cost 3;"), 0);
        check.due("the second time", house.hand(3), 8);
    }

    /** Eleven calls within one another. */
    private static void callsInARow(Check check) {
        check.term(3, "call: that POLICY is gone through; if it was over by let, bar, so is this one.");
        DomainHouse house = routed(1, 0, 0, 0);
        Check.policy(house, "cost 77,bar;");
        for (int i = 1; i < 12; i++) {
            Check.policy(house, "wish " + i + ",call " + (i - 1) + ",cost 1;let;");
        }
        check.due("barred by the innermost", house.judge(11, 1, 0), 0);
        check.due("it was gone through", house.hand(3), 77);
        check.due("by way of all", house.hand(1), 1);
    }

    private static void fiveHundredActs(Check check) {
        check.term(3, "The 501st ACT of one going through (of all POLICIES together, call counting, too) is not done: barred, over.");
        DomainHouse house = routed(1, 0, 0, 0);
        Check.policy(house, "add 1" + ",add 1".repeat(98) + ";");
        String before = "call 0,call 0,call 0,call 0,call 0;";
        check.due("500 ACTS", judged(house, before), 1);
        check.due("the 501st is no let", judged(house, before + "let;"), 0);
        check.due("the 501st is no cost", judged(house, before + "cost 5;"), 0);
        check.due("it is not done", house.hand(3), 0);
        check.due("the 500th is done", judged(house, "call 0,call 0,call 0,call 0" + ",add 1".repeat(99) + ",cost 6;"), 1);
        check.due("cost", house.hand(3), 6);
        check.due("the 500th is a let", judged(house, "call 0,call 0,call 0,call 0" + ",add 1".repeat(99) + ",let;bar;"), 1);
        check.due("rows that are not so have no ACTS", judged(house, before + "if cost=5 then bar;"), 1);
        check.due("each going through counts anew", judged(house, before), 1);
    }

    private static void callsCountToo(Check check) {
        check.term(3, "(of all POLICIES together, call counting, too)");
        DomainHouse house = routed(1, 0, 0, 0);
        Check.policy(house, "");
        Check.policy(house, "call 0" + ",call 0".repeat(98) + ";");
        check.due("five times 99 calls and one", judged(house, "call 1,call 1,call 1,call 1,call 1;"), 1);
        check.due("one ACT more", judged(house, "call 1,call 1,call 1,call 1,call 1,cost 5;"), 0);
        check.due("it is not done", house.hand(3), 0);
        check.due("the 501st within a POLICY that is called", judged(house, "add 1,call 1,call 1,call 1,call 1,call 1;let;"), 0);
        Check.policy(house, "cost 7;");
        check.due("a call that is the 500th", judged(house, "call 1,call 1,call 1,call 1" + ",add 1".repeat(99) + ",call 5;"), 0);
        check.due("what it calls is not done", house.hand(3), 0);
        check.due("a call that is the 499th", judged(house, "call 1,call 1,call 1,call 1" + ",add 1".repeat(98) + ",call 5;"), 1);
        check.due("what it calls is done", house.hand(3), 7);
    }

    private static void overWithoutThese(Check check) {
        check.term(3, "Over without these: let.");
        DomainHouse house = routed(1, 0, 0, 0);
        check.due("an empty text", judged(house, ""), 1);
        check.due("no row is so", judged(house, "if wish=1 then bar;"), 1);
        check.due("rows without them", judged(house, "cost 1;wish 2;"), 1);
    }
}
