/** Promises 17 to 21: policy, fault, route, judge, hand. */
public final class PolicyTest {
    private static final String SIX_DEEP = "if way((((((1|2)*)))))then bar;";

    public static void main(String[] args) {
        Check check = new Check("PolicyTest");
        wordFaults(check);
        tokenFaults(check);
        numberFaults(check);
        limitFaults(check);
        whichFaultGoesFirst(check);
        fullAndTape(check);
        routes(check);
        tests(check);
        ways(check);
        tieTests(check);
        acts(check);
        calls(check);
        actsInAll(check);
        wrongJudges(check);
        check.end();
    }

    private static void fault(Check check, String text, int kind, int place) {
        DomainHouse house = new DomainHouse();
        check.due("policy " + text, Check.policy(house, text), -10 - place);
        check.due("fault of " + text, house.fault(), kind);
        check.due("no policy by " + text, house.count(4), 0);
        check.due("empty tape by " + text, house.count(6), 0);
    }

    private static void right(Check check, String text) {
        DomainHouse house = new DomainHouse();
        check.due("policy " + text, Check.policy(house, text), 0);
        check.due("no fault of " + text, house.fault(), 0);
    }

    private static void wordFaults(Check check) {
        fault(check, "lets;", 1, 0);
        fault(check, "le;", 1, 0);
        fault(check, "z;", 1, 0);
        fault(check, "letz;", 1, 0);
        fault(check, "let;\n\n foo", 1, 7);
        fault(check, "if notmark 3 then bar;", 1, 3);
        fault(check, "add 0000000001;", 1, 4);
        right(check, "add 000000001;");
        right(check, "add1,add2;let;");
    }

    private static void tokenFaults(Check check) {
        right(check, "");
        right(check, " \n ");
        right(check, "if not not not tie kin and right unknown then let,bar,drop 3;\nlet;");
        fault(check, ";", 2, 0);
        fault(check, "let", 2, 3);
        fault(check, "let  ", 2, 5);
        fault(check, "let,;", 2, 4);
        fault(check, "let bar;", 2, 4);
        fault(check, "then let;", 2, 0);
        fault(check, "if mark 1 let;", 2, 10);
        fault(check, "if mark 1 and then let;", 2, 14);
        fault(check, "if let then let;", 2, 3);
        fault(check, "if", 2, 2);
        fault(check, "if not", 2, 6);
        fault(check, "if mark then let;", 2, 8);
        fault(check, "if tie bad then let;", 2, 7);
        fault(check, "if tie then let;", 2, 7);
        fault(check, "if right then let;", 2, 9);
        fault(check, "if right kin then let;", 2, 9);
        fault(check, "if length 3 then let;", 2, 10);
        fault(check, "if wish < = 3 then let;", 2, 10);
        fault(check, "if in 10.0.0/8 then let;", 2, 12);
        fault(check, "if in 10.0.0.0 then let;", 2, 15);
        fault(check, "if in 10.0.0.0/8 to then let;", 2, 20);
        fault(check, "if way 1 then let;", 2, 7);
        fault(check, "if way (1 then let;", 2, 10);
        fault(check, "if way (1|*) then let;", 2, 10);
        fault(check, "if way (1?+) then let;", 2, 10);
        fault(check, "if way (let) then let;", 2, 8);
        fault(check, "if way ((1) then let;", 2, 12);
        fault(check, "Let;", 2, 0);
        fault(check, "let;\t", 2, 4);
        fault(check, "let;\r\n", 2, 4);
        fault(check, "let;\u00e4", 2, 4);
        fault(check, "add -1;", 2, 4);
        fault(check, "wish < 3;", 2, 5);
    }

    private static void numberFaults(Check check) {
        right(check, "if in 255.255.255.255/32 to 32 and in 0.0.0.0/0 to 0 then let;");
        fault(check, "if in 0.0.0.256/32 then let;", 3, 12);
        fault(check, "if in 10.0.0.0/33 then let;", 3, 15);
        fault(check, "if in 10.1.0.0/15 then let;", 3, 15);
        fault(check, "if in 10.0.0.0/8 to 7 then let;", 3, 20);
        fault(check, "if in 10.0.0.0/8 to 33 then let;", 3, 20);
        right(check, "if mark 65535 and from 9 and origin 2 then add 65535,drop 0;");
        fault(check, "if mark 65536 then let;", 3, 8);
        fault(check, "add 65536;", 3, 4);
        fault(check, "drop 65536;", 3, 5);
        fault(check, "if from 10 then let;", 3, 8);
        fault(check, "if origin 3 then let;", 3, 10);
        right(check, "if way(1000000) and length>1000000 and cost<1000000 and wish=1000 then cost 1000000,wish 1000;");
        fault(check, "if way(1000001) then let;", 3, 7);
        fault(check, "if length=1000001 then let;", 3, 10);
        fault(check, "if cost=1000001 then let;", 3, 8);
        fault(check, "if wish=1001 then let;", 3, 8);
        fault(check, "cost 1000001;", 3, 5);
        fault(check, "wish 1001;", 3, 5);
        fault(check, "more 0;", 3, 5);
        fault(check, "more 10;", 3, 5);
        fault(check, "call 0;", 3, 5);
    }

    private static void limitFaults(Check check) {
        right(check, "let;".repeat(30));
        fault(check, "let;".repeat(30) + "let;", 4, 120);
        fault(check, "let;".repeat(30) + " if mark 1 then let;", 4, 121);
        right(check, "if way(" + "1 ".repeat(20) + ")and way(" + "any ".repeat(20) + ")then let;");
        fault(check, "if way(" + "1 ".repeat(20) + ")and way(" + "any ".repeat(21) + ")then let;", 4, 136);
        right(check, SIX_DEEP);
        fault(check, "if way(()(((((())))))) then let;", 4, 14);
        right(check, "if way(" + "()".repeat(480) + ")then let;");
        right(check, "if way(" + "|".repeat(960) + ")then let;");
    }

    private static void whichFaultGoesFirst(Check check) {
        fault(check, "let;".repeat(30) + ";", 2, 120);
        fault(check, "let;".repeat(30) + "foo", 1, 120);
        fault(check, "if way(" + "1 ".repeat(40) + "1000001)then let;", 3, 87);
        fault(check, "if way(" + "1 ".repeat(40) + "1234567890)then let;", 1, 87);
        fault(check, "let foo;", 1, 4);
        fault(check, "add 65536 foo;", 3, 4);
        fault(check, "if in 10.0.0.1/33 then let;", 3, 15);
    }

    private static void fullAndTape(Check check) {
        DomainHouse house = new DomainHouse();
        for (int i = 0; i < 12; i++) {
            check.due("policy", Check.policy(house, "wish " + i + ";"), i);
        }
        check.due("a fault goes ahead", Check.policy(house, "le;"), -10);
        check.due("fault", house.fault(), 1);
        check.due("FULL", Check.policy(house, "call 11;"), Check.FULL);
        check.due("the tape is empty then", house.count(6), 0);
        check.due("fault of the latest", house.fault(), 0);
        check.due("no such one yet", Check.policy(house, "call 12;"), -15);
        check.due("count", house.count(4), 12);
    }

    private static DomainHouse house() {
        DomainHouse house = new DomainHouse();
        house.prefix(10 << 24, 8);
        house.prefix(10 << 24 | 1 << 16, 16);
        Check.domains(house, 5);
        house.tie(0, 1, 0);
        house.tie(1, 2, 0);
        house.tie(1, 3, 1);
        house.tie(4, 1, 2);
        return house;
    }

    private static void routes(Check check) {
        DomainHouse house = house();
        check.due("no route in hand", house.hand(0), Check.NONE);
        Check.walk(house, 4, 9, 0);
        check.due("no prefix", house.route(2, 0, 0, 0), Check.BAD);
        check.due("wish -1", house.route(0, -1, 0, 0), Check.BAD);
        check.due("wish 1001", house.route(0, 1001, 0, 0), Check.BAD);
        check.due("origin -1", house.route(0, 0, -1, 0), Check.BAD);
        check.due("origin 3", house.route(0, 0, 3, 0), Check.BAD);
        check.due("cost -1", house.route(0, 0, 0, -1), Check.BAD);
        check.due("cost 1000001", house.route(0, 0, 0, 1000001), Check.BAD);
        check.due("still none", house.hand(0), Check.NONE);
        check.due("route", house.route(1, 1000, 2, 1000000), 0);
        house.walk(-1);
        int[] want = {1, 1000, 2, 1000000, 3, 0, Check.NONE};
        for (int i = 0; i < want.length; i++) {
            check.due("hand " + i, house.hand(i), want[i]);
        }
        check.dueRow("way", i -> house.hand(10 + i), 4, 9, 0);
        check.due("hand -1", house.hand(-1), Check.NONE);
        check.due("hand 9", house.hand(9), Check.NONE);
        check.due("hand 100", house.hand(100), Check.NONE);
        check.due("most", house.hand(Integer.MAX_VALUE), Check.NONE);
        check.due("the least numbers", house.route(0, 0, 0, 0), 0);
        check.due("an empty way", house.hand(4), 0);
        check.due("wish", house.hand(1), 0);
    }

    /** Whether a test is so: the policy bars if it is. */
    private static void test(Check check, DomainHouse house, String test, boolean so) {
        int number = Check.policy(house, "if " + test + " then bar;");
        if (number == Check.FULL || number < 0) {
            check.due("policy for " + test, number, 0);
            return;
        }
        check.due(test, house.judge(number, 1, 0), so ? 0 : 1);
    }

    private static void tests(Check check) {
        String[] so = {
            "in 10.0.0.0/8", "in 10.1.0.0/16", "in 10.0.0.0/8 to 16", "in 0.0.0.0/0", "not in 10.0.0.0/8 to 15",
            "not in 10.1.0.0/17", "not in 11.0.0.0/8", "length=3", "length<4", "length>2", "not length<3",
            "wish=70", "wish>69", "not wish>70", "cost=8", "cost<9", "not cost<8", "origin 1", "not origin 0",
            "from 0", "not from 1", "not mark 5", "not not wish=70", "wish=70 and cost=8", "right unknown",
            "not right valid", "not right bad",
        };
        DomainHouse house = null;
        for (int i = 0; i < so.length; i++) {
            if (i % 12 == 0) {
                house = house();
                Check.walk(house, 7, 8, 9);
                house.route(1, 70, 1, 8);
            }
            test(check, house, so[i], true);
        }
        DomainHouse other = house();
        Check.walk(other, 7, 8, 2);
        other.route(1, 70, 1, 8);
        test(check, other, "wish=70 and cost=9", false);
        test(check, other, "wish=71 and cost=8", false);
        other.right(0, 32, 2, 0, 9, 0);
        test(check, other, "right valid", true);
        other.right(0, 16, 1, 0, 9, 0);
        Check.walk(other, 7, 8, 3);
        other.route(1, 70, 1, 8);
        test(check, other, "right bad", true);
        other.walk(-1);
        other.route(1, 70, 1, 8);
        test(check, other, "right valid and length=0", true);
        check.due("an empty way begins at who looks", other.judge(2, 2, 1), 0);
        check.due("at who looks", other.judge(2, 0, 1), 1);
    }

    private static void way(Check check, String pattern, boolean so, int... numbers) {
        DomainHouse house = house();
        Check.walk(house, numbers);
        house.route(1, 70, 1, 8);
        test(check, house, "way(" + pattern + ")", so);
    }

    private static void ways(Check check) {
        way(check, "", true);
        way(check, "", false, 1);
        way(check, "()", true);
        way(check, "1", true, 1);
        way(check, "1", false, 1, 1);
        way(check, "1 2", true, 1, 2);
        way(check, "12", false, 1, 2);
        way(check, "1|2 3", true, 2, 3);
        way(check, "1|2 3", false, 1, 3);
        way(check, "(1|2) 3", true, 1, 3);
        way(check, "any", false);
        way(check, "any any", true, 4, 5);
        way(check, "any* 3 any*", true, 1, 3, 2);
        way(check, "any* 3 any*", false, 1, 2);
        way(check, "1+ 2?", true, 1, 1, 1, 2);
        way(check, "1+ 2?", false, 2);
        way(check, "1*", true);
        way(check, "1+", false);
        way(check, "(1 2)+", true, 1, 2, 1, 2);
        way(check, "(1 2)+", false, 1, 2, 1);
        way(check, "((1|)* 2)*", true, 2, 1, 1, 2);
        way(check, "((1|)* 2)*", true);
        way(check, "(()*)+ 5", true, 5);
        way(check, "|7", true);
        way(check, "(1?2?)+ 3", true, 2, 1, 2, 3);
        way(check, "(1?2?)? 3", false, 2, 1, 3);
        way(check, "1 1 1 1 1 1 1 1 1 1 1 1 1 1 1 1 1 1 1 1", true, 1, 1, 1, 1, 1, 1, 1, 1, 1, 1, 1, 1, 1, 1, 1, 1, 1, 1, 1, 1);
    }

    private static void tieTests(Check check) {
        DomainHouse house = house();
        String[] kinds = {"provider", "customer", "equal", "kin"};
        int[] partners = {0, 2, 3, 4};
        house.route(0, 100, 0, 0);
        for (int i = 0; i < kinds.length; i++) {
            int number = Check.policy(house, "if tie " + kinds[i] + " then bar;");
            for (int k = 0; k < partners.length; k++) {
                check.due(kinds[i] + " " + partners[k], house.judge(number, 1, partners[k]), i == k ? 0 : 1);
            }
        }
        check.due("seen from the other side", house.judge(1, 0, 1), 0);
        check.due("seen from the other side", house.judge(0, 2, 1), 0);
        house.raise(0, false);
        check.due("a tie that is down counts, too", house.judge(1, 0, 1), 0);
    }

    private static int judged(DomainHouse house, String text) {
        return house.judge(Check.policy(house, text), 1, 0);
    }

    private static void acts(Check check) {
        DomainHouse house = house();
        Check.walk(house, 5, 6);
        house.route(0, 100, 0, 0);
        check.due("marks", judged(house, "add 9,add 3,add 7,add 3;"), 1);
        check.dueRow("the least first", i -> house.hand(100 + i), 3, 7, 9);
        check.due("drop", judged(house, "drop 7,drop 8;"), 1);
        check.dueRow("without 7", i -> house.hand(100 + i), 3, 9);
        check.due("a ninth does not come", judged(house, "add 1,add 2,add 4,add 5,add 6,add 8,add 0,add 3;"), 1);
        check.dueRow("eight", i -> house.hand(100 + i), 1, 2, 3, 4, 5, 6, 8, 9);
        check.due("bar is over", judged(house, "wish 5,bar,wish 6;wish 7;"), 0);
        check.due("wish", house.hand(1), 5);
        check.due("let is over", judged(house, "cost 5,let,cost 6;bar;"), 1);
        check.due("cost", house.hand(3), 5);
        check.due("tests see what acts did", judged(house, "wish 9;if wish=9 then cost 11;if wish=5 then bar;"), 1);
        check.due("cost", house.hand(3), 11);
        check.due("more", judged(house, "more 9,more 9;"), 1);
        check.due("20 numbers", house.hand(4), 20);
        check.due("the first in front", house.hand(28), 5);
        check.due("the last stays", house.hand(29), 6);
        check.due("above 20", judged(house, "wish 1,more 1,wish 2;"), 0);
        check.due("as the acts left it", house.hand(1), 1);
        check.due("the way, too", house.hand(4), 20);
        house.walk(-1);
        house.route(0, 100, 0, 0);
        check.due("an empty way stays", judged(house, "more 9,more 9,more 9;"), 1);
        check.due("empty", house.hand(4), 0);
    }

    private static void calls(Check check) {
        DomainHouse house = house();
        house.route(0, 100, 0, 0);
        Check.policy(house, "wish 5;");
        Check.policy(house, "let;");
        Check.policy(house, "bar;");
        Check.policy(house, "call 2;");
        Check.policy(house, "more 9,more 9,more 9;");
        check.due("goes on", judged(house, "call 0,cost 3;"), 1);
        check.due("wish", house.hand(1), 5);
        check.due("cost", house.hand(3), 3);
        check.due("over by let", judged(house, "call 1,bar;"), 1);
        check.due("over by bar", judged(house, "call 2,let;"), 0);
        check.due("over by bar within", judged(house, "call 3;let;"), 0);
        Check.walk(house, 1);
        house.route(0, 100, 0, 0);
        check.due("over by a way too long", judged(house, "call 4;let;"), 0);
        check.due("way", house.hand(4), 19);
    }

    /** 500 acts are done, and the 501st bars. */
    private static void actsInAll(Check check) {
        DomainHouse house = house();
        house.route(0, 100, 0, 0);
        Check.policy(house, "wish 1" + ",wish 1".repeat(98) + ";");
        Check.policy(house, "call 0,call 0,call 0,call 0;");
        check.due("500 acts", judged(house, "call 1" + ",cost 7".repeat(99) + ";"), 1);
        check.due("500 acts, the last a let", judged(house, "call 1" + ",cost 7".repeat(98) + ",let;"), 1);
        check.due("501 acts", judged(house, "call 1" + ",cost 8".repeat(99) + ";cost 9;"), 0);
        check.due("the 501st is not done", house.hand(3), 8);
        check.due("501st act a let", judged(house, "call 1" + ",cost 8".repeat(99) + ";let;"), 0);
        check.due("no 501st", judged(house, "call 1" + ",cost 8".repeat(99) + ";if wish=2 then let;"), 1);
        check.due("counted anew by each judge", house.judge(2, 1, 0), 1);
    }

    private static void wrongJudges(Check check) {
        DomainHouse house = house();
        check.due("no policy", house.judge(0, 1, 0), Check.BAD);
        Check.policy(house, "let;");
        check.due("no route", house.judge(0, 1, 0), Check.NO);
        check.due("BAD ahead of NO", house.judge(1, 1, 0), Check.BAD);
        check.due("no tie", house.judge(0, 0, 2), Check.BAD);
        check.due("itself", house.judge(0, 1, 1), Check.BAD);
        check.due("no domain", house.judge(0, 1, 5), Check.BAD);
        check.due("no domain", house.judge(0, -1, 0), Check.BAD);
        house.route(0, 100, 0, 0);
        check.due("let", house.judge(0, 0, 1), 1);
        check.due("policy -1", house.judge(-1, 0, 1), Check.BAD);
        check.due("NONE is no policy here", house.judge(Check.NONE, 0, 1), Check.BAD);
    }
}
