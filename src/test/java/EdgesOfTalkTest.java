/** The edges of promises 22 to 31: policies in use, rules, what is begun, events, what is picked and heard, and why. */
public final class EdgesOfTalkTest {
    private static final int LEAST = Integer.MIN_VALUE;
    private static final int MOST = Integer.MAX_VALUE;
    private static final int TEN = Scene.TEN;
    private static final int ALL = 500;

    public static void main(String[] args) {
        Check check = new Check("EdgesOfTalkTest");
        use(check);
        useNone(check);
        wrongUses(check);
        rules(check);
        wrongRules(check);
        ruleLooksAtAll(check);
        announces(check);
        wrongAnnounces(check);
        announcedAlready(check);
        withdraws(check);
        wrongWithdraws(check);
        goAtMost(check);
        wrongGoes(check);
        goWithoutEvents(check);
        untilAMoment(check);
        untilFiveHundred(check);
        untilNotAll(check);
        wrongUntils(check);
        clockBeyondUntil(check);
        picked(check);
        pickedNothing(check);
        heard(check);
        heardNothing(check);
        whySteps(check);
        whyOthers(check);
        wrongWhys(check);
        three(check);
        noThree(check);
        wrongThrees(check);
        check.end();
    }

    private static void hear(DomainHouse house, int tie, int origin, int cost, int... way) {
        Wire.hear(house, tie, 0, new Wire().origin(origin).way(way).cost(cost).announce(TEN, 8));
    }

    // ---- use and rule

    private static void use(Check check) {
        check.promise(22, "A SIDE's POLICY of a TIE, in (way 0) or out (1), from now on");
        DomainHouse house = Scene.chain(2);
        Check.policy(house, "bar;");
        Check.policy(house, "add 1;");
        house.announce(0, 0, 0);
        house.go(ALL);
        check.due("in of SIDE 0 is not in of SIDE 1", house.use(0, 0, 0, 0), 0);
        check.due("still picked", house.picked(1, 0), 0);
        check.due("out of SIDE 1 is not out of SIDE 0", house.use(0, 1, 1, 0), 0);
        check.due("nothing new", house.count(8), 0);
        check.due("in of SIDE 1", house.use(0, 1, 0, 0), 0);
        check.due("at once", house.picked(1, 0), Check.NONE);
        check.due("the latest one counts", house.use(0, 1, 0, 1), 0);
        check.due("picked", house.picked(1, 0), 0);
        check.due("with its MARK", house.hand(100), 1);
        check.due("out of SIDE 0", house.use(0, 0, 1, 0), 0);
        check.due("nothing is SAID", house.heard(0, 0, 0, 1), Check.NONE);
        check.due("under way", house.count(8), 1);
    }

    private static void useNone(Check check) {
        check.promise(22, "(NONE: none, all are let): 0.");
        DomainHouse house = Scene.chain(2);
        check.due("without any POLICY", house.use(0, 0, 0, Check.NONE), 0);
        check.due("out, too", house.use(0, 1, 1, Check.NONE), 0);
        Check.policy(house, "bar;");
        house.use(0, 0, 1, 0);
        house.announce(0, 0, 0);
        check.due("barred", house.count(8), 0);
        check.due("none", house.use(0, 0, 1, Check.NONE), 0);
        check.due("let", house.count(8), 1);
        house.use(0, 1, 0, 0);
        house.go(ALL);
        check.due("barred", house.picked(1, 0), Check.NONE);
        check.due("none", house.use(0, 1, 0, Check.NONE), 0);
        check.due("let", house.picked(1, 0), 0);
    }

    private static void wrongUses(Check check) {
        check.promise(22, "BAD: none such.");
        DomainHouse house = Scene.chain(2);
        for (int i = 0; i < 12; i++) {
            Check.policy(house, "bar;");
        }
        int[][] wrong = {
            {-1, 0, 0, 0}, {1, 0, 0, 0}, {20, 0, 0, 0}, {LEAST, 0, 0, 0}, {MOST, 0, 0, 0}, {0, -1, 0, 0}, {0, 2, 0, 0},
            {0, LEAST, 0, 0}, {0, MOST, 0, 0}, {0, 0, -1, 0}, {0, 0, 2, 0}, {0, 0, LEAST, 0}, {0, 0, MOST, 0}, {0, 0, 1, -1},
            {0, 0, 1, 12}, {0, 0, 1, LEAST}, {0, 0, 1, MOST}, {0, 0, 1, Check.NONE + 1}, {0, 0, 1, Check.NONE - 1}, {0, 0, 1, -4},
            {1, 0, 0, Check.NONE}, {0, 2, 0, Check.NONE}, {0, 0, 2, Check.NONE},
        };
        for (int[] one : wrong) {
            check.due("use " + java.util.Arrays.toString(one), house.use(one[0], one[1], one[2], one[3]), Check.BAD);
        }
        house.announce(0, 0, 0);
        house.go(ALL);
        check.due("nothing is barred", house.picked(1, 0), 0);
        check.due("the last POLICY", house.use(0, 1, 0, 11), 0);
        check.due("is used", house.picked(1, 0), Check.NONE);
    }

    private static void rules(Check check) {
        check.promise(23, "A DOMAIN's RULE: figures 1 .. 6, each once at most, the number's first figure the first STEP (0: no STEPS), and whether GROUPED;");
        DomainHouse house = Scene.star(2);
        int[] right = {0, 1, 2, 3, 4, 5, 6, 16, 61, 654321, 123456, 246135, 135};
        for (int steps : right) {
            check.due("plain " + steps, house.rule(0, steps, false), 0);
            check.due("grouped " + steps, house.rule(0, steps, true), 0);
        }
        hear(house, 0, 2, 5, 7);
        hear(house, 1, 0, 9, 7);
        int[][] each = {{36, 1}, {63, 0}, {3, 1}, {6, 0}, {0, 0}, {1, 0}, {123456, 1}, {654321, 0}, {124536, 0}, {124356, 0}, {21356, 1}};
        for (int[] one : each) {
            house.rule(0, one[0], false);
            check.due("rule " + one[0], house.picked(0, 0), one[1]);
        }
    }

    private static void wrongRules(Check check) {
        check.promise(23, "BAD: no such DOMAIN, RULE.");
        DomainHouse house = Scene.star(2);
        hear(house, 0, 2, 5, 7);
        hear(house, 1, 0, 9, 7);
        house.rule(0, 3, false);
        int[] wrong = {
            -1, -12345, LEAST, MOST, 7, 8, 9, 10, 20, 60, 100, 101, 11, 66, 121, 1231, 17, 71, 123457, 1234561, 1123456, 6543211, 1234567,
            1234560, 123450, 1000000000, Check.NONE,
        };
        for (int steps : wrong) {
            check.due("rule " + steps, house.rule(0, steps, true), Check.BAD);
            check.due("rule " + steps, house.rule(0, steps, false), Check.BAD);
        }
        int[] domains = {-1, 3, 10, LEAST, MOST};
        for (int domain : domains) {
            check.due("domain " + domain, house.rule(domain, 1, false), Check.BAD);
        }
        check.due("the RULE is still 3", house.picked(0, 0), 1);
        check.due("the RULE is still 3", house.why(0, 0, 0), 3);
        check.due("the last DOMAIN", house.rule(2, 1, false), 0);
    }

    private static void ruleLooksAtAll(Check check) {
        check.promise(23, "it LOOKS at all PREFIXES: 0.");
        DomainHouse house = Scene.star(3);
        house.prefix(11 << 24, 8);
        Wire.hear(house, 0, 0, new Wire().origin(2).way(7).announce(TEN, 8).announce(11 << 24, 8));
        Wire.hear(house, 1, 0, new Wire().origin(1).way(7, 7).announce(TEN, 8).announce(11 << 24, 8));
        check.due("the first PREFIX", house.picked(0, 0), 0);
        check.due("the last PREFIX", house.picked(0, 1), 0);
        house.go(ALL);
        house.rule(0, 3, false);
        check.due("the first PREFIX", house.picked(0, 0), 1);
        check.due("the last PREFIX", house.picked(0, 1), 1);
        check.due("both are SAID over three TIES", house.count(8), 6);
        house.go(ALL);
        house.rule(0, 3, false);
        check.due("nothing is other than before", house.count(8), 0);
    }

    // ---- announce and withdraw

    private static void announces(Check check) {
        check.promise(24, "A DOMAIN begins a PREFIX, with an ORIGIN, and LOOKS: 0.");
        DomainHouse house = Scene.chain(2);
        for (int origin = 0; origin <= 2; origin++) {
            check.due("origin " + origin, house.announce(0, 0, origin), 0);
            check.due("it LOOKS", house.picked(0, 0), Check.OWN);
            check.due("with it", house.hand(2), origin);
            check.due("and SAYS", house.go(ALL), 1);
            house.picked(1, 0);
            check.due("heard", house.hand(2), origin);
        }
        check.due("the last ones", house.announce(1, 0, 0), 0);
    }

    private static void wrongAnnounces(Check check) {
        check.promise(24, "BAD: none such.");
        DomainHouse house = Scene.chain(2);
        int[][] wrong = {
            {-1, 0, 0}, {2, 0, 0}, {10, 0, 0}, {LEAST, 0, 0}, {MOST, 0, 0}, {0, -1, 0}, {0, 1, 0}, {0, LEAST, 0}, {0, MOST, 0},
            {0, 0, -1}, {0, 0, 3}, {0, 0, LEAST}, {0, 0, MOST},
        };
        for (int[] one : wrong) {
            check.due("announce " + java.util.Arrays.toString(one), house.announce(one[0], one[1], one[2]), Check.BAD);
        }
        check.due("nothing is picked", house.picked(0, 0), Check.NONE);
        check.due("nothing is to come", house.count(8), 0);
        house.announce(0, 0, 1);
        check.due("BAD with one begun, too", house.announce(0, 0, -1), Check.BAD);
        check.due("BAD with one begun, too", house.announce(0, 0, 3), Check.BAD);
        house.picked(0, 0);
        check.due("its ORIGIN stays", house.hand(2), 1);
    }

    private static void announcedAlready(Check check) {
        check.promise(24, "NO: it does so, with that ORIGIN.");
        DomainHouse house = Scene.chain(2);
        house.announce(0, 0, 0);
        house.go(ALL);
        check.due("with that ORIGIN", house.announce(0, 0, 0), Check.NO);
        check.due("nothing is SAID", house.count(8), 0);
        check.due("with another one", house.announce(0, 0, 2), 0);
        check.due("back again", house.announce(0, 0, 0), 0);
        check.due("another DOMAIN may do so, too", house.announce(1, 0, 0), 0);
        check.due("after it is begun no more", house.withdraw(0, 0), 0);
        check.due("it may be begun", house.announce(0, 0, 0), 0);
    }

    private static void withdraws(Check check) {
        check.promise(25, "A DOMAIN begins a PREFIX no more, and LOOKS: 0.");
        DomainHouse house = Scene.chain(2);
        house.announce(0, 0, 0);
        house.announce(1, 0, 0);
        house.go(ALL);
        check.due("own", house.picked(1, 0), Check.OWN);
        check.due("withdraw", house.withdraw(1, 0), 0);
        check.due("what was HEARD meanwhile", house.picked(1, 0), 0);
        check.due("taken back over the TIE it was HEARD over", house.count(8), 1);
        house.go(ALL);
        check.due("nothing", house.heard(0, 0, 0, 0), Check.NONE);
        check.promise(25, "NO: it does not.");
        check.due("again", house.withdraw(1, 0), Check.NO);
        check.due("nothing is SAID", house.count(8), 0);
        DomainHouse other = Scene.chain(2);
        check.due("it never did", other.withdraw(0, 0), Check.NO);
    }

    private static void wrongWithdraws(Check check) {
        check.promise(25, "BAD: none such.");
        DomainHouse house = Scene.chain(2);
        house.announce(0, 0, 0);
        house.announce(1, 0, 0);
        int[][] wrong = {{-1, 0}, {2, 0}, {10, 0}, {LEAST, 0}, {MOST, 0}, {0, -1}, {0, 1}, {0, 10}, {0, LEAST}, {0, MOST}};
        for (int[] one : wrong) {
            check.due("withdraw " + java.util.Arrays.toString(one), house.withdraw(one[0], one[1]), Check.BAD);
        }
        check.due("still begun", house.picked(0, 0), Check.OWN);
        check.due("still begun", house.picked(1, 0), Check.OWN);
    }

    // ---- go and until

    /** Three that each wish most for the way over the next one never come to rest; no two of their ties are alike in pace. */
    private static DomainHouse restless() {
        DomainHouse house = Scene.star(3);
        Check.policy(house, "if length=2 then wish 200,let;bar;");
        Check.policy(house, "bar;");
        int[] delays = {101, 211, 307};
        for (int i = 1; i <= 3; i++) {
            int tie = house.tie(i, i % 3 + 1, 1);
            house.use(tie, 0, 0, 0);
            house.use(tie, 1, 0, 1);
            house.pace(tie, delays[i - 1], 0);
        }
        house.announce(0, 0, 0);
        return house;
    }

    private static void goAtMost(Check check) {
        check.promise(26, "EVENTS are done, n (1 .. 500) at most: how many; THE CLOCK becomes their moments.");
        DomainHouse house = Scene.star(3);
        house.pace(1, 5, 0);
        house.pace(2, 5, 0);
        house.announce(0, 0, 0);
        check.due("one", house.go(1), 1);
        check.due("its moment", house.count(7), 1);
        check.due("all that there are", house.go(3), 2);
        check.due("their moment", house.count(7), 5);
        check.due("none", house.go(1), 0);
        check.due("the clock stays", house.count(7), 5);
        DomainHouse endless = restless();
        check.due("500 of more", endless.go(ALL), 500);
        check.due("500 done", endless.count(9), 500);
        check.due("there are more", endless.count(8) > 0 ? 1 : 0, 1);
        check.due("499", endless.go(499), 499);
        check.due("999 done", endless.count(9), 999);
    }

    private static void wrongGoes(Check check) {
        check.promise(26, "BAD.");
        DomainHouse house = Scene.chain(2);
        house.announce(0, 0, 0);
        int[] wrong = {0, -1, 501, 502, 1000, LEAST, MOST};
        for (int n : wrong) {
            check.due("go " + n, house.go(n), Check.BAD);
        }
        check.due("nothing is done", house.count(9), 0);
        check.due("the clock stays", house.count(7), 0);
        check.due("500", house.go(500), 1);
    }

    private static void goWithoutEvents(Check check) {
        check.promise(26, "EVENTS are done, n (1 .. 500) at most: how many;");
        DomainHouse house = new DomainHouse();
        check.due("1", house.go(1), 0);
        check.due("500", house.go(500), 0);
        check.due("clock", house.count(7), 0);
    }

    private static void untilAMoment(Check check) {
        check.promise(27, "All EVENTS up to a moment, that included, 500 at most, are done; THE CLOCK becomes it, if all were: how many.");
        DomainHouse house = Scene.star(3);
        house.pace(0, 10, 0);
        house.pace(1, 11, 0);
        house.pace(2, 12, 0);
        house.announce(0, 0, 0);
        check.due("one ahead of the first", house.until(9), 0);
        check.due("the clock becomes it", house.count(7), 9);
        check.due("its moment is included", house.until(10), 1);
        check.due("the next one is not", house.count(8), 2);
        check.due("again", house.until(10), 0);
        check.due("behind all", house.until(1000), 2);
        check.due("the clock becomes it", house.count(7), 1000);
    }

    private static void untilFiveHundred(Check check) {
        check.promise(27, "All EVENTS up to a moment, that included, 500 at most, are done; THE CLOCK becomes it, if all were: how many.");
        DomainHouse twin = restless();
        twin.go(ALL);
        int last = twin.count(7);
        twin.go(1);
        int next = twin.count(7);
        check.due("they lie apart, or this test is none", next - last > 1 ? 1 : 0, 1);
        DomainHouse house = restless();
        check.due("just 500, and no more up to it", house.until(next - 1), 500);
        check.due("all were: the clock becomes it", house.count(7), next - 1);
        check.due("the next one", house.until(next), 1);
        DomainHouse exact = restless();
        check.due("up to the 500th itself", exact.until(last), 500);
        check.due("clock", exact.count(7), last);
    }

    private static void untilNotAll(Check check) {
        check.promise(27, "All EVENTS up to a moment, that included, 500 at most, are done; THE CLOCK becomes it, if all were: how many.");
        DomainHouse twin = restless();
        twin.go(ALL);
        int last = twin.count(7);
        twin.go(1);
        int next = twin.count(7);
        DomainHouse house = restless();
        check.due("501 up to it, 500 are done", house.until(next), 500);
        check.due("not all were: the clock is the 500th's", house.count(7), last);
        check.due("the next call does the next one", house.until(next), 1);
        check.due("clock", house.count(7), next);
        DomainHouse far = restless();
        check.due("far away", far.until(1000000000), 500);
        check.due("clock", far.count(7), last);
    }

    private static void wrongUntils(Check check) {
        check.promise(27, "BAD: it is below THE CLOCK, or above 1000000000.");
        DomainHouse house = Scene.chain(2);
        check.due("below 0", house.until(-1), Check.BAD);
        check.due("0", house.until(0), 0);
        house.until(50);
        house.announce(0, 0, 0);
        int[] wrong = {49, 0, -1, LEAST, 1000000001, 2000000000, MOST};
        for (int moment : wrong) {
            check.due("until " + moment, house.until(moment), Check.BAD);
        }
        check.due("nothing is done", house.count(9), 0);
        check.due("the clock stays", house.count(7), 50);
        check.due("the clock itself", house.until(50), 0);
        check.due("the last one", house.until(1000000000), 1);
        check.due("clock", house.count(7), 1000000000);
        check.due("it again", house.until(1000000000), 0);
        check.due("one below it", house.until(999999999), Check.BAD);
    }

    /** EVENTS go on above what until() can be told. */
    private static void clockBeyondUntil(Check check) {
        check.promise(27, "BAD: it is below THE CLOCK, or above 1000000000.");
        DomainHouse house = Scene.chain(2);
        house.pace(0, 1000, 1000);
        house.until(1000000000);
        house.announce(0, 0, 0);
        house.announce(0, 0, 1);
        check.due("they lie behind it", house.until(1000000000), 0);
        check.due("arrives", house.go(1), 1);
        check.due("clock", house.count(7), 1000001000);
        check.due("below the clock", house.until(1000000000), Check.BAD);
        check.due("above 1000000000", house.until(1000001000), Check.BAD);
        check.due("wait and arrival", house.go(ALL), 2);
        check.due("clock", house.count(7), 1000002000);
    }

    // ---- picked and heard

    private static void picked(Check check) {
        check.promise(28, "What a DOMAIN has PICKED of a PREFIX becomes the ROUTE IN HAND: the TIE; -4: its OWN;");
        DomainHouse house = Scene.chain(3);
        house.prefix(11 << 24, 8);
        house.announce(0, 1, 2);
        house.go(ALL);
        check.due("own", house.picked(0, 1), -4);
        int[] own = {1, 100, 2, 0, 0, 0};
        for (int what = 0; what < own.length; what++) {
            check.due("own " + what, house.hand(what), own[what]);
        }
        check.due("TIE 0", house.picked(1, 1), 0);
        check.dueRow("way", i -> house.hand(10 + i), 0);
        check.due("TIE 1", house.picked(2, 1), 1);
        check.dueRow("way", i -> house.hand(10 + i), 1, 0);
        check.promise(28, "BAD: none such.");
        int[][] wrong = {{-1, 1}, {3, 1}, {LEAST, 1}, {MOST, 1}, {0, -1}, {0, 2}, {0, LEAST}, {0, MOST}};
        for (int[] one : wrong) {
            check.due("picked " + java.util.Arrays.toString(one), house.picked(one[0], one[1]), Check.BAD);
            check.due("what is in hand stays", house.hand(4), 2);
        }
    }

    private static void pickedNothing(Check check) {
        check.promise(28, "NONE: nothing (what is in hand stays).");
        DomainHouse house = Scene.chain(2);
        house.prefix(11 << 24, 8);
        check.due("nothing", house.picked(0, 0), Check.NONE);
        check.due("nothing is in hand", house.hand(0), Check.NONE);
        house.announce(0, 1, 2);
        house.picked(0, 1);
        check.due("nothing", house.picked(0, 0), Check.NONE);
        check.due("what is in hand stays", house.hand(0), 1);
        house.withdraw(0, 1);
        check.due("nothing", house.picked(0, 1), Check.NONE);
        check.due("what is in hand stays", house.hand(2), 2);
    }

    private static void heard(Check check) {
        check.promise(29, "What a SIDE has HEARD (what = 0), SAID last (1) over a TIE becomes the ROUTE IN HAND: when it was;");
        DomainHouse house = Scene.chain(2);
        house.pace(0, 30, 0);
        house.announce(0, 0, 2);
        check.due("SAID at 0", house.heard(0, 0, 0, 1), 0);
        check.dueRow("way", i -> house.hand(10 + i), 0);
        check.due("not HEARD yet", house.heard(0, 1, 0, 0), Check.NONE);
        house.go(1);
        check.due("HEARD at 30", house.heard(0, 1, 0, 0), 30);
        check.due("WISH", house.hand(1), 100);
        check.due("ORIGIN", house.hand(2), 2);
        check.due("still SAID at 0", house.heard(0, 0, 0, 1), 0);
        check.promise(29, "BAD: none such.");
        int[][] wrong = {
            {-1, 0, 0, 0}, {1, 0, 0, 0}, {LEAST, 0, 0, 0}, {MOST, 0, 0, 0}, {0, -1, 0, 0}, {0, 2, 0, 0}, {0, LEAST, 0, 0}, {0, MOST, 0, 0},
            {0, 0, -1, 0}, {0, 0, 1, 0}, {0, 0, LEAST, 0}, {0, 0, MOST, 0}, {0, 0, 0, -1}, {0, 0, 0, 2}, {0, 0, 0, LEAST}, {0, 0, 0, MOST},
        };
        for (int[] one : wrong) {
            check.due("heard " + java.util.Arrays.toString(one), house.heard(one[0], one[1], one[2], one[3]), Check.BAD);
        }
        check.due("what is in hand stays", house.hand(2), 2);
    }

    private static void heardNothing(Check check) {
        check.promise(29, "NONE: nothing (what is in hand stays).");
        DomainHouse house = Scene.chain(2);
        for (int side = 0; side < 2; side++) {
            check.due("HEARD at first", house.heard(0, side, 0, 0), Check.NONE);
            check.due("SAID at first", house.heard(0, side, 0, 1), Check.NONE);
        }
        check.due("nothing is in hand", house.hand(0), Check.NONE);
        house.announce(0, 0, 1);
        house.go(ALL);
        house.heard(0, 1, 0, 0);
        house.withdraw(0, 0);
        check.due("SAID last is nothing", house.heard(0, 0, 0, 1), Check.NONE);
        check.due("HEARD until it arrives", house.heard(0, 1, 0, 0), 1);
        house.go(ALL);
        check.due("HEARD is nothing", house.heard(0, 1, 0, 0), Check.NONE);
        check.due("what is in hand stays", house.hand(2), 1);
    }

    // ---- why and three

    private static void whySteps(Check check) {
        check.promise(30, "Why what a SIDE has HEARD is not PICKED: 0 it is; 1 .. 6 the first STEP at which it and what is PICKED "
            + "(by which the DOMAIN's RULE goes, as POLICIES left both) are unlike, 7 none (the partner);");
        DomainHouse house = Scene.star(2);
        Check.policy(house, "wish 101;");
        house.use(0, 0, 0, 0);
        hear(house, 0, 0, 3, 7);
        hear(house, 1, 0, 3, 7);
        check.due("as POLICIES left both", house.why(1, 0, 0), 1);
        check.due("it is", house.why(0, 0, 0), 0);
        house.use(0, 0, 0, Check.NONE);
        check.due("unlike at none", house.why(1, 0, 0), 7);
        check.due("it is", house.why(0, 0, 0), 0);
        hear(house, 1, 0, 3, 7, 7);
        check.due("WAY", house.why(1, 0, 0), 2);
        hear(house, 1, 1, 3, 7);
        check.due("ORIGIN", house.why(1, 0, 0), 3);
        hear(house, 1, 0, 4, 7);
        check.due("COST, one first number", house.why(1, 0, 0), 4);
        hear(house, 1, 0, 4, 8);
        check.due("another first number: none", house.why(1, 0, 0), 7);
        house.until(1);
        hear(house, 1, 0, 4, 8);
        check.due("HEARD later", house.why(1, 0, 0), 5);
        house.rule(0, 6, false);
        check.due("COST by STEP 6", house.why(1, 0, 0), 6);
        house.rule(0, 0, false);
        check.due("no STEPS", house.why(1, 0, 0), 7);
        house.prefix(11 << 24, 8);
        house.announce(2, 1, 0);
        house.go(ALL);
        check.due("after another PREFIX was looked at", house.why(1, 0, 0), 7);
        check.due("after another PREFIX was looked at", house.why(0, 0, 0), 0);
        check.due("of that PREFIX", house.why(1, 0, 1), 0);
        house.rule(0, 654321, false);
        check.due("the first STEP of the RULE", house.why(1, 0, 0), 6);
    }

    private static void whyOthers(Check check) {
        check.promise(30, "8 OWN is; 9 its own number is in the WAY; 10 it is barred; NONE: nothing is HEARD.");
        DomainHouse house = Scene.star(3);
        Check.policy(house, "bar;");
        check.due("nothing", house.why(0, 0, 0), Check.NONE);
        hear(house, 0, 0, 0, 5);
        house.use(0, 0, 0, 0);
        check.due("barred, and nothing is PICKED", house.why(0, 0, 0), 10);
        hear(house, 1, 0, 0, 5, 0);
        check.due("its own number, the last", house.why(1, 0, 0), 9);
        hear(house, 1, 0, 0, 0, 5);
        check.due("its own number, the first", house.why(1, 0, 0), 9);
        hear(house, 2, 0, 0, 5);
        check.due("it is", house.why(2, 0, 0), 0);
        check.due("barred, and another one is PICKED", house.why(0, 0, 0), 10);
        house.announce(0, 0, 0);
        check.due("OWN is", house.why(2, 0, 0), 8);
        Wire.hear(house, 2, 0, new Wire().withdraw(TEN, 8));
        check.due("nothing is HEARD, with OWN, too", house.why(2, 0, 0), Check.NONE);
        house.raise(1, false);
        check.due("gone with the TIE", house.why(1, 0, 0), Check.NONE);
    }

    private static void wrongWhys(Check check) {
        check.promise(30, "BAD: none such.");
        DomainHouse house = Scene.chain(2);
        int[][] wrong = {
            {-1, 0, 0}, {1, 0, 0}, {LEAST, 0, 0}, {MOST, 0, 0}, {0, -1, 0}, {0, 2, 0}, {0, LEAST, 0}, {0, MOST, 0}, {0, 0, -1}, {0, 0, 1},
            {0, 0, LEAST}, {0, 0, MOST},
        };
        for (int[] one : wrong) {
            check.due("why " + java.util.Arrays.toString(one), house.why(one[0], one[1], one[2]), Check.BAD);
        }
        check.due("the last ones", house.why(0, 1, 0), Check.NONE);
    }

    /** Over ties 0, 1, 2: 0 beats 1 as it was heard earlier, 1 beats 2 by cost, 2 beats 0 as it was heard earlier. */
    private static DomainHouse ringOfThree() {
        DomainHouse house = Scene.star(5);
        house.rule(0, 45, false);
        house.until(1);
        hear(house, 2, 0, 20, 7);
        house.until(2);
        hear(house, 0, 0, 0, 8);
        house.until(3);
        hear(house, 1, 0, 10, 7);
        return house;
    }

    private static void three(Check check) {
        check.promise(31, "TIES x, y, z (k = 0, 1, 2) of three CANDIDATES of a DOMAIN of which x BEATS y, y z, and z x: the first ones by x, y, z;");
        DomainHouse house = ringOfThree();
        for (int k = 0; k < 3; k++) {
            check.due("k " + k, house.three(0, 0, k), k);
        }
        house.until(4);
        hear(house, 3, 0, 12, 7);
        for (int k = 0; k < 3; k++) {
            check.due("with a fourth, the first ones: k " + k, house.three(0, 0, k), k);
        }
        house.raise(1, false);
        int[] want = {0, 3, 2};
        for (int k = 0; k < 3; k++) {
            check.due("without TIE 1: k " + k, house.three(0, 0, k), want[k]);
        }
        check.promise(31, "or k.");
        int[] none = {-1, 3, LEAST, MOST};
        for (int k : none) {
            check.due("k " + k, house.three(0, 0, k), Check.NONE);
        }
    }

    private static void noThree(Check check) {
        check.promise(31, "NONE: there are none (also with OWN), or k.");
        DomainHouse house = ringOfThree();
        house.announce(0, 0, 0);
        check.due("with OWN", house.three(0, 0, 0), Check.NONE);
        house.withdraw(0, 0);
        check.due("without it", house.three(0, 0, 0), 0);
        house.rule(0, 65, false);
        check.due("by another RULE", house.three(0, 0, 0), Check.NONE);
        house.rule(0, 45, true);
        check.due("GROUPED or not", house.three(0, 0, 0), 0);
        Check.policy(house, "bar;");
        house.use(0, 0, 0, 0);
        check.due("one is barred", house.three(0, 0, 0), Check.NONE);
        for (int tie = 0; tie < 3; tie++) {
            DomainHouse fallen = ringOfThree();
            fallen.raise(tie, false);
            check.due("TIE " + tie + " is down", fallen.three(0, 0, 0), Check.NONE);
        }
        DomainHouse two = Scene.star(2);
        two.rule(0, 45, false);
        check.due("no CANDIDATES", two.three(0, 0, 0), Check.NONE);
        hear(two, 0, 0, 20, 7);
        hear(two, 1, 0, 10, 7);
        check.due("two CANDIDATES", two.three(0, 0, 0), Check.NONE);
    }

    private static void wrongThrees(Check check) {
        check.promise(31, "BAD: none such.");
        DomainHouse house = ringOfThree();
        int[][] wrong = {{-1, 0}, {6, 0}, {LEAST, 0}, {MOST, 0}, {0, -1}, {0, 1}, {0, LEAST}, {0, MOST}};
        for (int[] one : wrong) {
            check.due("three " + java.util.Arrays.toString(one), house.three(one[0], one[1], 0), Check.BAD);
            check.due("BAD with a wrong k, too", house.three(one[0], one[1], 3), Check.BAD);
        }
        check.due("the last DOMAIN", house.three(5, 0, 0), Check.NONE);
    }
}
