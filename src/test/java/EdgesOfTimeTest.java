/** The edges of part 4 of the terms: what beats what, looking, saying, events. */
public final class EdgesOfTimeTest {
    private static final int LEAST = Integer.MIN_VALUE;
    private static final int MOST = Integer.MAX_VALUE;
    private static final int TEN = Scene.TEN;
    private static final int ELEVEN = 11 << 24;
    private static final int ALL = 500;

    public static void main(String[] args) {
        Check check = new Check("EdgesOfTimeTest");
        nothingAtFirst(check);
        ruleAtFirst(check);
        stepsAtTheirEdges(check);
        firstNumbers(check);
        lesserPartner(check);
        ownNumberInTheWay(check);
        policyInOfThatTie(check);
        tiesThatAreDown(check);
        ownIsPicked(check);
        plainByTies(check);
        groups(check);
        groupsInAnyOrder(check);
        eachGroupCanWin(check);
        emptyWaysByThemselves(check);
        otherThanBefore(check);
        whenDoesNotCount(check);
        likeRoutes(check);
        plainAtFirst(check);
        saidByTies(check);
        numberInFront(check);
        aboveTwenty(check);
        policyOut(check);
        heardOverThisTie(check);
        justWhatWasSaid(check);
        gapAtItsEdge(check);
        gapOfNothing(check);
        oneWaitOnly(check);
        underWayIsGone(check);
        likeMoments(check);
        madeEarlier(check);
        arrives(check);
        waitEnds(check);
        tieFalls(check);
        tieComesBack(check);
        policyIsTold(check);
        dayAndRights(check);
        orderOfAllSaying(check);
        mostEvents(check);
        farMoments(check);
        check.end();
    }

    private static void hear(DomainHouse house, int tie, int origin, int cost, int... way) {
        Wire.hear(house, tie, 0, new Wire().origin(origin).way(way).cost(cost).announce(TEN, 8));
    }

    private static void nothingAtFirst(Check check) {
        check.term(4, "HEARD over each TIE, by each SIDE, of each PREFIX, is a ROUTE, or nothing (at first), and when.");
        int[] ties = {0, 19};
        for (int tie : ties) {
            for (int p = 0; p < 10; p += 9) {
                DomainHouse fresh = new DomainHouse();
                for (int i = 0; i < 10; i++) {
                    fresh.prefix(i << 24, 8);
                    fresh.domain();
                }
                for (int i = 0; i < 20; i++) {
                    fresh.tie(i % 10, (i + 1 + i / 10) % 10, 1);
                }
                check.due("HEARD by SIDE 0", fresh.heard(tie, 0, p, 0), Check.NONE);
                check.due("HEARD by SIDE 1", fresh.heard(tie, 1, p, 0), Check.NONE);
                int from = tie % 10;
                fresh.announce(from, p, 0);
                fresh.go(4);
                check.due("HEARD then", fresh.heard(tie, 1, p, 0), 1);
                check.due("of this PREFIX alone", fresh.heard(tie, 1, 9 - p, 0), Check.NONE);
                check.due("by this SIDE alone", fresh.heard(tie, 0, p, 0), Check.NONE);
            }
        }
    }

    /** Who is picked of two: 0 that of tie 0, 1 that of tie 1. */
    private static void ruleAtFirst(Check check) {
        check.term(4, "A DOMAIN has a RULE, a row of STEPS (1, 2, 3, 4, 5 at first);");
        DomainHouse house = Scene.star(2);
        Check.policy(house, "wish 101;");
        hear(house, 0, 0, 0, 7);
        house.use(1, 0, 0, 0);
        hear(house, 1, 2, 9, 7, 7);
        check.due("1 ahead of 2", house.picked(0, 0), 1);
        house.use(1, 0, 0, Check.NONE);
        hear(house, 0, 0, 0, 7, 7);
        hear(house, 1, 2, 9, 7);
        check.due("2 ahead of 3", house.picked(0, 0), 1);
        hear(house, 0, 1, 0, 7);
        hear(house, 1, 0, 9, 7);
        check.due("3 ahead of 4", house.picked(0, 0), 1);
        house.until(1);
        hear(house, 0, 0, 9, 7);
        house.until(2);
        hear(house, 1, 0, 8, 7);
        check.due("4 ahead of 5", house.picked(0, 0), 1);
        house.until(3);
        hear(house, 0, 0, 8, 7);
        check.due("5 ahead of the partner", house.picked(0, 0), 1);
        house.until(4);
        hear(house, 1, 0, 0, 8);
        check.due("6 is no STEP at first", house.picked(0, 0), 0);
    }

    private static void stepsAtTheirEdges(Check check) {
        check.term(4, "BEATS: of two ROUTES, the first STEP at which they are unlike: 1 the greater WISH, 2 the shorter WAY, 3 the lesser ORIGIN,");
        DomainHouse house = Scene.star(2);
        Check.policy(house, "wish 0;");
        Check.policy(house, "wish 1000;");
        Check.policy(house, "wish 999;");
        hear(house, 0, 0, 0, 7);
        hear(house, 1, 0, 0, 7);
        int[][] wishes = {{0, 1, 1}, {1, 0, 0}, {1, 1, 0}, {0, 0, 0}, {2, 1, 1}, {1, 2, 0}};
        for (int[] one : wishes) {
            house.use(0, 0, 0, one[0]);
            house.use(1, 0, 0, one[1]);
            check.due("WISHES by " + one[0] + " and " + one[1], house.picked(0, 0), one[2]);
        }
        house.use(0, 0, 0, Check.NONE);
        house.use(1, 0, 0, Check.NONE);
        int[] nineteen = new int[19];
        java.util.Arrays.fill(nineteen, 7);
        hear(house, 0, 0, 0, Wire.join(nineteen, 7));
        hear(house, 1, 2, 9, nineteen);
        check.due("19 numbers and 20", house.picked(0, 0), 1);
        hear(house, 0, 0, 0, 7);
        hear(house, 1, 2, 9);
        check.due("none and one", house.picked(0, 0), 1);
        hear(house, 0, 2, 0, 7);
        hear(house, 1, 1, 9, 7);
        check.due("ORIGIN 2 and 1", house.picked(0, 0), 1);
        check.term(4, "4 the lesser COST, if the WAYS have one first number (else they are not unlike), 5 HEARD earlier, 6 the lesser COST;");
        hear(house, 0, 0, 1000000, 7);
        hear(house, 1, 0, 999999, 7);
        check.due("COST 1000000 and 999999", house.picked(0, 0), 1);
        hear(house, 0, 0, 1, 7);
        hear(house, 1, 0, 0, 7);
        check.due("COST 1 and 0", house.picked(0, 0), 1);
        hear(house, 1, 0, 0, 8);
        check.due("not unlike at 4", house.picked(0, 0), 0);
        house.rule(0, 6, false);
        check.due("unlike at 6", house.picked(0, 0), 1);
        house.until(1000000000);
        hear(house, 1, 0, 1, 7);
        house.rule(0, 5, false);
        check.due("HEARD at 0 and at 1000000000", house.picked(0, 0), 0);
        hear(house, 0, 0, 1, 7);
        check.due("HEARD at one moment", house.why(1, 0, 0), 7);
    }

    private static void firstNumbers(Check check) {
        check.term(4, "if the WAYS have one first number (else they are not unlike),");
        DomainHouse house = Scene.star(2);
        house.rule(0, 4, false);
        hear(house, 0, 0, 5, 7, 8);
        hear(house, 1, 0, 3, 7);
        check.due("the first alone counts", house.picked(0, 0), 1);
        hear(house, 1, 0, 3, 8, 7);
        check.due("the last does not", house.picked(0, 0), 0);
        hear(house, 0, 0, 5);
        hear(house, 1, 0, 3);
        check.due("two empty WAYS have none", house.picked(0, 0), 0);
        hear(house, 1, 0, 3, 7);
        check.due("an empty one and another", house.picked(0, 0), 0);
        hear(house, 0, 0, 5, 7);
        check.due("one first number", house.picked(0, 0), 1);
        hear(house, 1, 0, 3);
        check.due("another and an empty one", house.picked(0, 0), 0);
        hear(house, 0, 0, 5, -1);
        hear(house, 1, 0, 3, -1);
        check.due("the greatest number", house.picked(0, 0), 1);
        check.due("by COST", house.why(0, 0, 0), 4);
    }

    private static void lesserPartner(Check check) {
        check.term(4, "unlike at none: the lesser partner.");
        DomainHouse house = new DomainHouse();
        house.prefix(TEN, 8);
        Check.domains(house, 10);
        house.tie(5, 9, 0);
        house.tie(0, 5, 0);
        house.tie(5, 4, 1);
        Wire wire = new Wire().origin(0).way(7).announce(TEN, 8);
        Wire.hear(house, 0, 0, wire);
        Wire.hear(house, 2, 0, wire);
        check.due("4 and not 9, though its TIE comes later", house.picked(5, 0), 2);
        Wire.hear(house, 1, 1, wire);
        check.due("0", house.picked(5, 0), 1);
        check.due("the partner", house.why(0, 0, 0), 7);
        house.rule(5, 0, true);
        check.due("without STEPS, too", house.picked(5, 0), 1);
    }

    private static void ownNumberInTheWay(Check check) {
        check.term(4, "TO LOOK, a DOMAIN at a PREFIX: CANDIDATES are what is HEARD over its UP TIES, its own number not in the WAY,");
        DomainHouse house = Scene.star(2);
        int[][] ways = {{0}, {0, 7}, {7, 0}, {7, 0, 8}, {7, 7, 7, 7, 7, 7, 7, 7, 7, 7, 7, 7, 7, 7, 7, 7, 7, 7, 7, 0}};
        for (int[] way : ways) {
            hear(house, 0, 0, 0, way);
            check.due("no CANDIDATE", house.picked(0, 0), Check.NONE);
            check.due("but HEARD", house.heard(0, 0, 0, 0), 0);
        }
        int[][] others = {{}, {1}, {10}, {-1}, {LEAST}, {256}};
        for (int[] way : others) {
            hear(house, 0, 0, 0, way);
            check.due("a CANDIDATE", house.picked(0, 0), 0);
        }
    }

    private static void policyInOfThatTie(Check check) {
        check.term(4, "gone through by its POLICY in of that TIE, and not barred.");
        DomainHouse house = Scene.star(2);
        Check.policy(house, "bar;");
        Check.policy(house, "more 1,add 3,cost 5;");
        hear(house, 0, 0, 0, 7);
        hear(house, 1, 0, 0, 7);
        house.use(0, 0, 0, 0);
        check.due("that of TIE 0 bars", house.picked(0, 0), 1);
        check.due("HEARD is as it was", house.heard(0, 0, 0, 0), 0);
        house.use(0, 0, 0, 1);
        house.use(1, 0, 0, 0);
        check.due("changed by its POLICY", house.picked(0, 0), 0);
        check.dueRow("the WAY", i -> house.hand(10 + i), 7, 7);
        check.due("COST", house.hand(3), 5);
        house.heard(0, 0, 0, 0);
        check.dueRow("HEARD is not changed", i -> house.hand(10 + i), 7);
        house.use(0, 0, 0, 0);
        check.due("all are barred", house.picked(0, 0), Check.NONE);
    }

    private static void tiesThatAreDown(Check check) {
        check.term(4, "CANDIDATES are what is HEARD over its UP TIES,");
        DomainHouse house = Scene.star(2);
        hear(house, 0, 0, 0, 7);
        hear(house, 1, 0, 0, 7);
        house.raise(0, false);
        check.due("TIE 0 is down", house.picked(0, 0), 1);
        house.raise(1, false);
        check.due("both are", house.picked(0, 0), Check.NONE);
        house.raise(0, true);
        check.due("what was HEARD does not come back", house.picked(0, 0), Check.NONE);
    }

    private static void ownIsPicked(Check check) {
        check.term(4, "PICKED is: its OWN (if it begins the PREFIX: an empty WAY, WISH 100, COST 0, no MARKS, its ORIGIN), else of the CANDIDATES:");
        DomainHouse house = Scene.star(1);
        Check.policy(house, "wish 1000;");
        house.use(0, 0, 0, 0);
        Wire.hear(house, 0, 0, new Wire().origin(0).way().cost(0).marks(5).announce(TEN, 8));
        check.due("HEARD", house.picked(0, 0), 0);
        house.announce(0, 0, 2);
        check.due("OWN, though the other one would beat it", house.picked(0, 0), Check.OWN);
        int[] own = {0, 100, 2, 0, 0, 0};
        for (int what = 0; what < own.length; what++) {
            check.due("own " + what, house.hand(what), own[what]);
        }
        house.withdraw(0, 0);
        check.due("else of the CANDIDATES", house.picked(0, 0), 0);
    }

    private static void plainByTies(Check check) {
        check.term(4, "plain: the first by TIES, and then by TIES each one that BEATS it takes its place;");
        DomainHouse house = Scene.star(3);
        house.rule(0, 45, false);
        house.until(1);
        hear(house, 2, 0, 20, 7);
        house.until(2);
        hear(house, 0, 0, 0, 8);
        house.until(3);
        hear(house, 1, 0, 10, 7);
        check.due("0 beats 1, 2 beats 0: the last is not looked at again", house.picked(0, 0), 2);
        house.raise(0, false);
        check.due("1 beats 2", house.picked(0, 0), 1);
        check.due("one alone", house.raise(1, false), 1);
        check.due("is picked", house.picked(0, 0), 2);
    }

    private static void groups(Check check) {
        check.term(4, "GROUPED: of the CANDIDATES with one first number likewise (an empty WAY: by itself), then of those that were left, "
            + "by first numbers as numbers without sign (empty ones ahead, by TIES), likewise.");
        DomainHouse house = Scene.star(4);
        house.rule(0, 45, true);
        house.until(1);
        hear(house, 2, 0, 20, 7);
        house.until(2);
        hear(house, 0, 0, 0, 8);
        house.until(3);
        hear(house, 1, 0, 10, 7);
        check.due("of 7 the cheaper one is left, 8 was HEARD earlier", house.picked(0, 0), 0);
        house.until(4);
        hear(house, 0, 0, 0, -8);
        check.due("-8 was HEARD later", house.picked(0, 0), 1);
        house.rule(0, 4, true);
        hear(house, 3, 0, 0, 7);
        check.due("no STEP between groups: the lesser partner", house.picked(0, 0), 0);
        house.raise(0, false);
        check.due("the cheapest of one group", house.picked(0, 0), 3);
    }

    /** Whichever tie each comes over: what its group has left behind does not come in again. */
    private static void groupsInAnyOrder(Check check) {
        check.term(4, "GROUPED: of the CANDIDATES with one first number likewise (an empty WAY: by itself), then of those that were left,");
        int[][] orders = {{0, 1, 2}, {0, 2, 1}, {1, 0, 2}, {1, 2, 0}, {2, 0, 1}, {2, 1, 0}};
        int[][] others = {{8}, {5}, {-1}, {LEAST}};
        for (int[] order : orders) {
            for (int[] other : others) {
                groupsInOrder(check, order, other);
            }
        }
    }

    private static void groupsInOrder(Check check, int[] order, int[] other) {
        DomainHouse house = Scene.star(3);
        house.rule(0, 45, true);
        house.until(1);
        hear(house, order[0], 0, 20, 7);
        house.until(2);
        hear(house, order[1], 0, 0, other);
        house.until(3);
        hear(house, order[2], 0, 10, 7);
        check.due("of 7 the cheaper, later one is left, so the other group's is PICKED", house.picked(0, 0), order[1]);
        house.raise(order[1], false);
        check.due("without it the cheaper one", house.picked(0, 0), order[2]);
        house.raise(order[2], false);
        check.due("without that the last one", house.picked(0, 0), order[0]);
    }

    /** Three groups, their first numbers in any order over the ties: each wins where it was heard first. */
    private static void eachGroupCanWin(Check check) {
        check.term(4, "by first numbers as numbers without sign (empty ones ahead, by TIES), likewise.");
        int[][] ways = {{5}, {-8}, {}};
        int[][] orders = {{0, 1, 2}, {0, 2, 1}, {1, 0, 2}, {1, 2, 0}, {2, 0, 1}, {2, 1, 0}};
        for (int[] order : orders) {
            for (int first = 0; first < 3; first++) {
                DomainHouse house = Scene.star(3);
                house.rule(0, 5, true);
                hear(house, first, 0, 0, ways[order[first]]);
                house.until(1);
                hear(house, (first + 1) % 3, 0, 0, ways[order[(first + 1) % 3]]);
                hear(house, (first + 2) % 3, 0, 0, ways[order[(first + 2) % 3]]);
                check.due("the one HEARD first", house.picked(0, 0), first);
                house.raise(first, false);
                check.due("then the lesser partner", house.picked(0, 0), first == 0 ? 1 : 0);
            }
        }
    }

    private static void emptyWaysByThemselves(Check check) {
        check.term(4, "(an empty WAY: by itself),");
        DomainHouse house = Scene.star(3);
        house.rule(0, 46, true);
        hear(house, 0, 0, 9);
        hear(house, 1, 0, 8);
        hear(house, 2, 0, 7);
        check.due("the cheapest of three empty ones, by STEP 6", house.picked(0, 0), 2);
        check.due("not by STEP 4", house.why(0, 0, 0), 6);
        house.rule(0, 4, true);
        check.due("by partners", house.picked(0, 0), 0);
        check.due("by partners", house.why(2, 0, 0), 7);
    }

    private static void otherThanBefore(Check check) {
        check.term(4, "If what is PICKED is other than before (the TIE, or anything of the ROUTE;");
        DomainHouse house = Scene.star(3);
        Check.policy(house, "wish 99;");
        hear(house, 0, 0, 0, 7);
        check.due("two others", house.go(ALL), 2);
        hear(house, 1, 0, 0, 7);
        house.raise(0, false);
        check.due("another TIE, the ROUTE alike: TIE 1 takes back, TIE 2 keeps", house.count(8), 1);
        house.go(ALL);
        hear(house, 1, 1, 0, 7);
        check.due("another ORIGIN", house.go(ALL), 1);
        hear(house, 1, 1, 1, 7);
        check.due("another COST", house.go(ALL), 1);
        hear(house, 1, 1, 1, 8);
        check.due("another WAY", house.go(ALL), 1);
        Wire.hear(house, 1, 0, new Wire().origin(1).way(8).cost(1).marks(0).announce(TEN, 8));
        check.due("a MARK", house.go(ALL), 1);
        int[][] marks = {{1}, {0, 1}, {0, 2}, {1, 2}, {1, 2, 3, 4, 5, 6, 7, 8}, {1, 2, 3, 4, 5, 6, 7, 9}, {0, 2, 3, 4, 5, 6, 7, 9}};
        for (int[] one : marks) {
            Wire.hear(house, 1, 0, new Wire().origin(1).way(8).cost(1).marks(one).announce(TEN, 8));
            check.due("other MARKS", house.go(ALL), 1);
            house.hear(1, 0);
            check.due("the same again", house.count(8), 0);
        }
        Wire.hear(house, 1, 0, new Wire().origin(1).way(8).cost(1).marks(0).announce(TEN, 8));
        house.go(ALL);
        house.use(1, 0, 0, 0);
        check.due("another WISH is not SAID", house.count(8), 0);
        house.picked(0, 0);
        check.due("but PICKED", house.hand(1), 99);
    }

    private static void whenDoesNotCount(Check check) {
        check.term(4, "when it was HEARD does not count), it SAYS it over its UP TIES, by TIES.");
        DomainHouse house = Scene.star(2);
        hear(house, 0, 0, 0, 7);
        house.go(ALL);
        house.tie(1, 2, 1);
        house.until(9);
        house.hear(0, 0);
        check.due("nothing is SAID", house.count(8), 0);
        check.due("HEARD anew", house.heard(0, 0, 0, 0), 9);
    }

    private static void likeRoutes(Check check) {
        check.term(4, "If what is PICKED is other than before (the TIE, or anything of the ROUTE;");
        likeRoutes(check, 20, 13);
        likeRoutes(check, 13, 6);
        likeRoutes(check, 6, 0);
    }

    /** Ever shorter ways, so that what is left of a longer one could be taken for a number of a shorter one. */
    private static void likeRoutes(Check check, int longest, int shortest) {
        int[] twenty = {9, 8, 7, 6, 5, 4, 3, 2, 1, 9, 8, 7, 6, 5, 4, 3, 2, 1, 9, 8};
        DomainHouse house = Scene.star(2);
        for (int length = longest; length >= shortest; length--) {
            int[] way = java.util.Arrays.copyOf(twenty, length);
            hear(house, 0, 0, 0, way);
            check.due("other by its length of " + length, house.go(ALL), length == 20 ? 0 : 1);
            house.hear(0, 0);
            check.due("the same again, of " + length, house.count(8), 0);
            if (length > 0 && length < 20) {
                way[length - 1] = 77;
                hear(house, 0, 0, 0, way);
                check.due("other by its last number, of " + length, house.go(ALL), 1);
                way[0] = 78;
                hear(house, 0, 0, 0, way);
                check.due("other by its first number, of " + length, house.go(ALL), 1);
            }
        }
    }

    private static void plainAtFirst(Check check) {
        check.term(4, "A DOMAIN has a RULE, a row of STEPS (1, 2, 3, 4, 5 at first);");
        DomainHouse house = Scene.star(3);
        house.until(1);
        hear(house, 2, 0, 20, 7);
        house.until(2);
        hear(house, 0, 0, 0, 8);
        house.until(3);
        hear(house, 1, 0, 10, 7);
        check.due("not GROUPED", house.picked(0, 0), 2);
        house.rule(0, 12345, true);
        check.due("GROUPED", house.picked(0, 0), 0);
        house.rule(0, 12345, false);
        check.due("plain, as at first", house.picked(0, 0), 2);
    }

    private static void saidByTies(Check check) {
        check.term(4, "it SAYS it over its UP TIES, by TIES.");
        DomainHouse house = new DomainHouse();
        house.prefix(TEN, 8);
        Check.domains(house, 4);
        house.tie(3, 0, 0);
        house.tie(0, 1, 0);
        house.tie(2, 0, 0);
        house.raise(1, false);
        house.announce(0, 0, 0);
        check.due("over two", house.count(8), 2);
        house.go(1);
        check.due("TIE 0 first", house.picked(3, 0), 0);
        check.due("TIE 2 then", house.picked(2, 0), Check.NONE);
        house.go(1);
        check.due("TIE 2", house.picked(2, 0), 2);
        check.due("not over one that is down", house.heard(1, 0, 0, 1), Check.NONE);
    }

    private static void numberInFront(Check check) {
        check.term(4, "TO SAY a PREFIX over a TIE: what is PICKED, with the DOMAIN's number put in front of the WAY and WISH 100");
        DomainHouse house = Scene.star(2);
        Check.policy(house, "wish 1000;");
        house.use(0, 0, 0, 0);
        Wire.hear(house, 0, 0, new Wire().origin(1).way().cost(1000000).marks(65535, 0).announce(TEN, 8));
        check.due("SAID", house.heard(1, 0, 0, 1), 0);
        check.dueRow("an empty WAY and its number", i -> house.hand(10 + i), 0);
        int[] want = {0, 100, 1, 1000000, 1, 2};
        for (int what = 0; what < want.length; what++) {
            check.due("SAID " + what, house.hand(what), want[what]);
        }
        hear(house, 0, 0, 0, 7, 8);
        house.heard(1, 0, 0, 1);
        check.dueRow("its number in front", i -> house.hand(10 + i), 0, 7, 8);
    }

    private static void aboveTwenty(Check check) {
        check.term(4, "(above 20 numbers: nothing),");
        DomainHouse house = Scene.star(2);
        int[] nineteen = new int[19];
        java.util.Arrays.fill(nineteen, 7);
        hear(house, 0, 0, 0, Wire.join(nineteen, 7));
        check.due("20 are picked", house.picked(0, 0), 0);
        check.due("21 are not SAID", house.count(8), 0);
        hear(house, 0, 0, 0, nineteen);
        check.due("20 are", house.count(8), 1);
        house.heard(1, 0, 0, 1);
        check.due("20", house.hand(4), 20);
        house.go(ALL);
        hear(house, 0, 0, 0, Wire.join(nineteen, 7));
        check.due("nothing takes its place", house.go(ALL), 1);
        check.due("nothing", house.heard(1, 1, 0, 0), Check.NONE);
        Check.policy(house, "more 1;");
        house.use(1, 0, 1, 0);
        hear(house, 0, 0, 0, nineteen);
        check.due("a POLICY that makes it 21 bars", house.count(8), 0);
    }

    private static void policyOut(Check check) {
        check.term(4, "gone through by its POLICY out of that TIE (partner: the other one), WISH 100 again; nothing, if nothing is PICKED, it is barred,");
        DomainHouse house = Scene.star(2);
        Check.policy(house, "if from 2 then bar;if tie customer and wish=100 then wish 300,cost 4;");
        house.use(0, 0, 1, 0);
        house.use(1, 0, 1, 0);
        house.announce(0, 0, 0);
        check.due("barred for 2", house.count(8), 1);
        house.heard(0, 0, 0, 1);
        check.due("WISH 100 again", house.hand(1), 100);
        check.due("COST", house.hand(3), 4);
        house.picked(0, 0);
        check.due("what is PICKED is as it was", house.hand(3), 0);
        DomainHouse through = Scene.star(2);
        Check.policy(through, "wish 300;");
        Check.policy(through, "if wish=100 then add 5;");
        through.use(0, 0, 0, 0);
        through.use(1, 0, 1, 1);
        hear(through, 0, 0, 0, 7);
        through.picked(0, 0);
        check.due("PICKED with WISH 300", through.hand(1), 300);
        through.heard(1, 0, 0, 1);
        check.due("its POLICY out sees WISH 100", through.hand(100), 5);
        house.go(ALL);
        house.withdraw(0, 0);
        check.due("nothing, if nothing is PICKED", house.count(8), 1);
        check.due("SAID is nothing", house.heard(0, 0, 0, 1), Check.NONE);
    }

    private static void heardOverThisTie(Check check) {
        check.term(4, "or was HEARD over this TIE.");
        DomainHouse house = Scene.chain(2);
        house.announce(0, 0, 0);
        check.due("there, and not back", house.go(ALL), 1);
        check.due("nothing is SAID back", house.heard(0, 1, 0, 1), Check.NONE);
        house.announce(1, 0, 0);
        check.due("OWN is SAID", house.go(ALL), 1);
        house.withdraw(1, 0);
        check.due("PICKED over this TIE: nothing takes its place", house.go(ALL), 1);
        check.due("nothing", house.heard(0, 0, 0, 0), Check.NONE);
    }

    private static void justWhatWasSaid(Check check) {
        check.term(4, "Is that just what was SAID last over it (nothing at first), no more is done.");
        DomainHouse house = Scene.chain(2);
        house.pace(0, 5, 0);
        house.raise(0, true);
        check.due("nothing at first", house.count(8), 0);
        house.announce(0, 0, 0);
        house.until(2);
        house.raise(0, true);
        check.due("what is under way is as it was", house.count(8), 1);
        check.due("SAID at 0", house.heard(0, 0, 0, 1), 0);
        house.announce(0, 0, 1);
        house.announce(0, 0, 0);
        check.due("SAID last is not what arrived last", house.heard(0, 0, 0, 1), 2);
        check.due("so it arrives later", house.go(ALL), 1);
        check.due("at", house.count(7), 7);
    }

    private static void gapAtItsEdge(Check check) {
        check.term(4, "Else, if there is a moment at which it (also: nothing) was SAID last, and THE CLOCK is below that moment plus the GAP: "
            + "it WAITS: an EVENT at that sum");
        int[] gaps = {1, 2, 1000};
        for (int gap : gaps) {
            DomainHouse early = Scene.chain(2);
            early.pace(0, 1, gap);
            early.until(10);
            early.announce(0, 0, 0);
            early.until(10 + gap - 1);
            early.announce(0, 0, 1);
            check.due("one ahead of the sum it WAITS, gap " + gap, early.heard(0, 0, 0, 1), 10);
            early.until(10 + gap);
            check.due("it ends at the sum", early.heard(0, 0, 0, 1), 10 + gap);
            DomainHouse late = Scene.chain(2);
            late.pace(0, 1, gap);
            late.until(10);
            late.announce(0, 0, 0);
            late.until(10 + gap);
            late.announce(0, 0, 1);
            check.due("at the sum it is SAID, gap " + gap, late.heard(0, 0, 0, 1), 10 + gap);
        }
        DomainHouse first = Scene.chain(2);
        first.pace(0, 1, 1000);
        first.announce(0, 0, 0);
        check.due("never SAID: no GAP", first.heard(0, 0, 0, 1), 0);
        DomainHouse none = Scene.chain(2);
        none.announce(0, 0, 0);
        none.announce(0, 0, 1);
        none.heard(0, 0, 0, 1);
        check.due("GAP 0 at one moment", none.hand(2), 1);
    }

    private static void gapOfNothing(Check check) {
        check.term(4, "if there is a moment at which it (also: nothing) was SAID last,");
        DomainHouse house = Scene.chain(2);
        house.pace(0, 1, 10);
        house.announce(0, 0, 0);
        house.until(10);
        house.withdraw(0, 0);
        check.due("nothing is SAID at 10", house.heard(0, 0, 0, 1), Check.NONE);
        house.until(19);
        house.announce(0, 0, 0);
        check.due("it WAITS", house.heard(0, 0, 0, 1), Check.NONE);
        house.until(20);
        check.due("SAID at 20", house.heard(0, 0, 0, 1), 20);
    }

    private static void oneWaitOnly(Check check) {
        check.term(4, "(none, if one is to come).");
        DomainHouse house = Scene.chain(2);
        house.prefix(ELEVEN, 8);
        house.pace(0, 1, 10);
        house.announce(0, 0, 0);
        house.announce(0, 1, 0);
        house.until(1);
        for (int origin = 1; origin <= 2; origin++) {
            house.announce(0, 0, origin);
            check.due("one WAIT", house.count(8), 1);
        }
        house.announce(0, 1, 1);
        check.due("another PREFIX has its own", house.count(8), 2);
        check.due("WAITS and arrivals", house.go(ALL), 4);
        house.picked(1, 0);
        check.due("the latest is SAID", house.hand(2), 2);
        house.announce(0, 0, 0);
        check.due("another one may be made then", house.count(8), 1);
        check.due("two more", house.go(ALL), 2);
    }

    private static void underWayIsGone(Check check) {
        check.term(4, "Else it is SAID: an EVENT DELAY later (what was under way of it, of this TIE, SIDE and PREFIX, is gone).");
        DomainHouse house = Scene.star(2);
        house.prefix(ELEVEN, 8);
        house.pace(0, 100, 0);
        house.pace(1, 100, 0);
        house.announce(0, 0, 0);
        house.announce(0, 1, 0);
        house.announce(1, 0, 0);
        check.due("five are under way", house.count(8), 5);
        house.until(50);
        house.use(0, 0, 1, Check.NONE);
        check.due("just what was SAID: they stay", house.count(8), 5);
        Check.policy(house, "if in 10.0.0.0/8 then add 1;");
        house.use(0, 0, 1, 0);
        check.due("one in the place of another", house.count(8), 5);
        check.due("the others arrive at 100", house.until(100), 4);
        check.due("by SIDE 1 of TIE 0, too", house.heard(0, 0, 0, 0), 100);
        check.due("the other PREFIX, too", house.heard(0, 1, 1, 0), 100);
        check.due("over the other TIE, too", house.heard(1, 1, 0, 0), 100);
        check.due("this one not yet", house.heard(0, 1, 0, 0), Check.NONE);
        check.due("at 150", house.go(ALL), 1);
        check.due("at 150", house.heard(0, 1, 0, 0), 150);
        check.due("as it was SAID last", house.hand(100), 1);
    }

    private static void likeMoments(Check check) {
        check.term(4, "EVENTS are done by their moments, of like ones as they were made;");
        DomainHouse house = Scene.star(3);
        house.pace(0, 3, 0);
        house.pace(1, 2, 0);
        house.pace(2, 3, 0);
        house.announce(0, 0, 0);
        int[] order = {2, 1, 3};
        for (int next : order) {
            check.due("not yet", house.picked(next, 0), Check.NONE);
            house.go(1);
            check.due("then", house.picked(next, 0), next - 1);
        }
    }

    /** At moment 10: an arrival made at 0, a wait made at 1, and an arrival made at 9. */
    private static void madeEarlier(Check check) {
        check.term(4, "of like ones as they were made;");
        DomainHouse house = Scene.star(3);
        house.pace(0, 10, 0);
        house.pace(1, 1, 10);
        house.raise(2, false);
        house.announce(0, 0, 0);
        house.until(1);
        house.announce(0, 0, 1);
        check.due("arrival anew, WAIT", house.count(8), 2);
        house.until(9);
        house.raise(2, true);
        check.due("and another arrival", house.count(8), 3);
        house.go(1);
        check.due("the WAIT", house.heard(1, 0, 0, 1), 10);
        check.due("not the arrival yet", house.picked(3, 0), Check.NONE);
        house.go(1);
        check.due("the arrival", house.picked(3, 0), 2);
        check.due("both at 10", house.count(7), 10);
        check.due("that of TIE 0 is made at 1", house.until(11), 2);
        check.due("at 11", house.heard(0, 1, 0, 0), 11);
    }

    private static void arrives(Check check) {
        check.term(4, "SAID arrives: the other DOMAIN has HEARD it, or nothing, and LOOKS.");
        DomainHouse house = Scene.chain(3);
        house.announce(0, 0, 0);
        house.go(1);
        check.due("1 has PICKED it", house.picked(1, 0), 0);
        check.due("and SAYS it on", house.count(8), 1);
        house.withdraw(0, 0);
        house.go(2);
        check.due("nothing arrives: 1 has PICKED nothing", house.picked(1, 0), Check.NONE);
        check.due("2 still has", house.picked(2, 0), 1);
        house.go(1);
        check.due("2, too", house.picked(2, 0), Check.NONE);
    }

    private static void waitEnds(Check check) {
        check.term(4, "A WAIT ends: it SAYS.");
        DomainHouse house = Scene.chain(2);
        house.pace(0, 1, 10);
        house.announce(0, 0, 0);
        house.until(5);
        house.announce(0, 0, 1);
        house.announce(0, 0, 0);
        check.due("it is as it was SAID, the WAIT stays", house.count(8), 1);
        check.due("it ends", house.until(10), 1);
        check.due("no more is done", house.count(8), 0);
        house.announce(0, 0, 2);
        check.due("SAID at once: SAID last was 0", house.heard(0, 0, 0, 1), 10);
        house.announce(0, 0, 0);
        house.pace(0, 1, 15);
        house.until(20);
        check.due("a longer GAP: it WAITS again", house.heard(0, 0, 0, 1), 10);
        check.due("one is to come", house.count(8), 1);
        house.until(25);
        check.due("SAID at 25", house.heard(0, 0, 0, 1), 25);
    }

    private static void tieFalls(Check check) {
        check.term(4, "A TIE that falls: what was HEARD, SAID over it, when, its EVENTS are gone; then both LOOK at all PREFIXES, SIDE 0 first.");
        DomainHouse house = new DomainHouse();
        house.prefix(TEN, 8);
        house.prefix(ELEVEN, 8);
        Check.domains(house, 4);
        house.tie(1, 0, 0);
        house.tie(0, 2, 0);
        house.tie(1, 3, 0);
        house.pace(0, 1, 50);
        house.announce(0, 0, 0);
        house.announce(0, 1, 0);
        house.announce(1, 1, 0);
        house.go(ALL);
        house.announce(0, 0, 1);
        house.announce(2, 0, 0);
        check.due("WAIT of TIE 0, two arrivals of TIE 1", house.count(8), 3);
        house.raise(0, false);
        check.due("those of TIE 1 stay, 1 takes back over TIE 2", house.count(8), 3);
        for (int side = 0; side < 2; side++) {
            for (int p = 0; p < 2; p++) {
                check.due("HEARD", house.heard(0, side, p, 0), Check.NONE);
                check.due("SAID", house.heard(0, side, p, 1), Check.NONE);
            }
        }
        check.due("1 has LOOKED", house.picked(1, 0), Check.NONE);
        check.due("its OWN stays", house.picked(1, 1), Check.OWN);
        for (int side = 0; side < 2; side++) {
            for (int p = 0; p < 10; p += 9) {
                DomainHouse full = new DomainHouse();
                for (int i = 0; i < 10; i++) {
                    full.prefix(i << 24, 8);
                }
                Check.domains(full, 3);
                full.tie(0, 1, 0);
                full.tie(1, 2, 0);
                full.pace(0, 2, 1000);
                full.announce(side, p, 0);
                full.announce(side, p, 1);
                full.raise(0, false);
                check.due("arrival and WAIT of SIDE " + side + " and PREFIX " + p + ", not those of TIE 1", full.count(8), side);
            }
        }
        DomainHouse both = new DomainHouse();
        both.prefix(TEN, 8);
        both.prefix(ELEVEN, 8);
        Check.domains(both, 4);
        both.tie(1, 0, 0);
        both.tie(0, 2, 0);
        both.tie(1, 3, 0);
        Wire.hear(both, 0, 0, new Wire().origin(0).way(7).announce(TEN, 8));
        Wire.hear(both, 0, 1, new Wire().origin(0).way(7).announce(ELEVEN, 8));
        both.go(ALL);
        both.raise(0, false);
        check.due("both take back", both.count(8), 2);
        both.go(1);
        check.due("SIDE 0 first, though its TIE is the later one", both.heard(2, 1, 0, 0), Check.NONE);
        check.due("SIDE 1 then", both.heard(1, 1, 1, 0), 1);
    }

    private static void tieComesBack(Check check) {
        check.term(4, "One that comes back: both SAY all PREFIXES over it, likewise.");
        DomainHouse house = new DomainHouse();
        house.prefix(TEN, 8);
        house.prefix(ELEVEN, 8);
        Check.domains(house, 2);
        house.tie(1, 0, 0);
        house.raise(0, false);
        house.announce(0, 0, 0);
        house.announce(1, 1, 0);
        check.due("nothing over one that is down", house.count(8), 0);
        house.raise(0, true);
        check.due("both", house.count(8), 2);
        house.go(1);
        check.due("SIDE 0 first", house.picked(0, 1), 0);
        check.due("SIDE 1 then", house.picked(1, 0), Check.NONE);
        house.go(1);
        check.due("SIDE 1 then", house.picked(1, 0), 0);
        DomainHouse all = new DomainHouse();
        all.prefix(TEN, 8);
        all.prefix(ELEVEN, 8);
        Check.domains(all, 2);
        all.announce(0, 1, 0);
        all.announce(0, 0, 0);
        all.tie(0, 1, 0);
        all.raise(0, true);
        all.go(1);
        check.due("by PREFIXES", all.picked(1, 0), 0);
        check.due("by PREFIXES", all.picked(1, 1), Check.NONE);
    }

    private static void policyIsTold(Check check) {
        check.term(4, "A POLICY in, or a RULE that is told: the DOMAIN LOOKS at all; out: it SAYS all over the TIE.");
        DomainHouse house = Scene.star(2);
        house.prefix(ELEVEN, 8);
        Check.policy(house, "bar;");
        Wire.hear(house, 0, 0, new Wire().origin(0).way(7).announce(TEN, 8).announce(ELEVEN, 8));
        house.go(ALL);
        house.use(0, 0, 0, 0);
        check.due("the first PREFIX", house.picked(0, 0), Check.NONE);
        check.due("the last one", house.picked(0, 1), Check.NONE);
        check.due("both are taken back", house.go(ALL), 2);
        house.use(0, 0, 0, Check.NONE);
        check.due("both are SAID", house.go(ALL), 2);
        house.use(1, 0, 1, 0);
        check.due("out: both are taken back", house.go(ALL), 2);
        check.due("PICKED they are", house.picked(0, 1), 0);
        house.use(1, 0, 1, Check.NONE);
        check.due("both are SAID", house.go(ALL), 2);
        DomainHouse fresh = new DomainHouse();
        fresh.prefix(TEN, 8);
        Check.domains(fresh, 3);
        fresh.announce(0, 0, 0);
        fresh.tie(0, 1, 0);
        fresh.tie(0, 2, 0);
        fresh.use(0, 0, 0, Check.NONE);
        check.due("in: nothing is other than before", fresh.count(8), 0);
        fresh.use(0, 0, 1, Check.NONE);
        check.due("out: over the TIE, and no other", fresh.count(8), 1);
    }

    private static void dayAndRights(Check check) {
        check.term(4, "TODAY, a RIGHT that is told or struck: all DOMAINS LOOK at all, by DOMAINS, then PREFIXES;");
        DomainHouse house = Scene.star(2);
        house.prefix(ELEVEN, 8);
        Check.policy(house, "if right bad then bar;");
        house.use(1, 1, 0, 0);
        house.use(0, 1, 0, 0);
        house.announce(0, 0, 0);
        house.announce(0, 1, 0);
        house.go(ALL);
        house.right(0, 8, 1, 0, 5, 0);
        check.due("a RIGHT that is told: DOMAIN 1", house.picked(1, 0), Check.NONE);
        check.due("the last DOMAIN", house.picked(2, 0), Check.NONE);
        check.due("the other PREFIX", house.picked(2, 1), 1);
        house.strike(0, 0);
        check.due("struck", house.picked(1, 0), 0);
        check.due("struck", house.picked(2, 0), 1);
        house.right(1, 8, 1, 5, 6, 0);
        check.due("not yet", house.picked(2, 1), 1);
        house.today(5);
        check.due("TODAY", house.picked(2, 1), Check.NONE);
        house.today(6);
        check.due("TODAY", house.picked(2, 1), 1);
        house.use(0, 0, 0, 0);
        house.prefix(12 << 24, 8);
        house.announce(1, 2, 0);
        house.go(ALL);
        check.due("DOMAIN 0, too", house.picked(0, 2), 0);
        house.right(2, 8, 2, 6, 7, 0);
        check.due("DOMAIN 0, too", house.picked(0, 2), Check.NONE);
        house.strike(2, 6);
        check.due("DOMAIN 0, too", house.picked(0, 2), 0);
    }

    private static void orderOfAllSaying(Check check) {
        check.term(4, "then all SAY all over their UP TIES, by DOMAINS, TIES, PREFIXES.");
        DomainHouse house = new DomainHouse();
        house.prefix(TEN, 8);
        house.prefix(ELEVEN, 8);
        Check.domains(house, 4);
        house.announce(0, 1, 0);
        house.announce(0, 0, 0);
        house.announce(1, 0, 0);
        house.tie(1, 3, 0);
        house.tie(2, 0, 0);
        house.tie(0, 3, 0);
        house.tie(0, 1, 1);
        house.raise(3, false);
        house.today(1);
        int[][] order = {{1, 0, 0, 0}, {1, 0, 1, 0}, {2, 1, 0, 0}, {2, 1, 1, 0}, {0, 1, 0, 0}};
        for (int[] next : order) {
            check.due("not yet", house.heard(next[0], next[1], next[2], next[3]), Check.NONE);
            house.go(1);
            check.due("then", house.heard(next[0], next[1], next[2], next[3]), 1);
        }
        check.due("none over the one that is down", house.heard(3, 1, 0, 0), Check.NONE);
    }

    /** All that can be under way at once, over twenty ties, by both sides, of ten prefixes, and a wait for each. */
    private static void mostEvents(Check check) {
        check.term(4, "EVENTS are done by their moments, of like ones as they were made;");
        DomainHouse house = new DomainHouse();
        for (int i = 0; i < 10; i++) {
            house.prefix(i << 24, 8);
            house.domain();
        }
        for (int i = 0; i < 20; i++) {
            house.tie(i % 10, (i + 1 + i / 10) % 10, 1);
            house.pace(i, 1000, 1000);
        }
        for (int origin = 0; origin < 2; origin++) {
            for (int i = 0; i < 100; i++) {
                house.announce(i / 10, i % 10, origin);
            }
            check.due("to come", house.count(8), 400 + 400 * origin);
        }
        check.due("500 of them", house.go(ALL), 500);
        check.due("at", house.count(7), 1000);
        check.due("300, and 100 SAID by WAITS that ended", house.count(8), 400);
        check.due("300 and 200", house.go(ALL), 500);
        check.due("at", house.count(7), 2000);
        check.due("the last 200", house.go(ALL), 200);
        check.due("none is to come", house.count(8), 0);
        check.due("the last of all", house.heard(19, 1, 9, 0), 2000);
        check.due("as SAID last", house.hand(2), 1);
        check.due("the first of all", house.heard(0, 0, 0, 0), 2000);
    }

    /** No run of 512 calls comes to 2000000000; this is how far one can go, and moments are whole there. */
    private static void farMoments(Check check) {
        check.term(4, "none whose moment is above 2000000000 (they stay to come).");
        DomainHouse house = Scene.chain(2);
        house.pace(0, 1000, 1000);
        house.until(1000000000);
        for (int i = 0; i < 100; i++) {
            house.announce(0, 0, i % 3);
            house.go(ALL);
        }
        check.due("they are done", house.count(8), 0);
        check.due("clock", house.count(7), 1000100000);
        check.due("arrived", house.heard(0, 1, 0, 0), house.count(7));
        check.due("the greatest int is no moment", house.until(MOST), Check.BAD);
    }
}
