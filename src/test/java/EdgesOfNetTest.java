/** The edges of promises 44 to 48 and of part 7 of the terms: wishes, states of rest, and which can be come to. */
public final class EdgesOfNetTest {
    private static final int LEAST = Integer.MIN_VALUE;
    private static final int MOST = Integer.MAX_VALUE;

    public static void main(String[] args) {
        Check check = new Check("EdgesOfNetTest");
        clears(check);
        wishes(check);
        longestWish(check);
        wrongWishes(check);
        wishedAlready(check);
        fiveWishes(check);
        emptyNet(check);
        aimAlways(check);
        offered(check);
        mostWishedFirst(check);
        noRest(check);
        manyRests(check);
        orderOfRests(check);
        noneIsLast(check);
        wrongRests(check);
        statesComeTo(check);
        noRestFromThere(check);
        leastChanges(check);
        wrongTries(check);
        fullNet(check);
        thirtySixRests(check);
        knownAnew(check);
        check.end();
    }

    private static int wish(DomainHouse house, int... places) {
        Check.walk(house, places);
        return house.wish();
    }

    private static DomainHouse net(int[]... ways) {
        DomainHouse house = new DomainHouse();
        for (int[] way : ways) {
            wish(house, way);
        }
        return house;
    }

    private static int[] way(int... places) {
        return places;
    }

    private static void rest(Check check, DomainHouse house, int i, int... want) {
        for (int place = 1; place <= 6; place++) {
            check.due("rest " + i + " of " + place, house.rest(i, place), place <= want.length ? want[place - 1] : -4);
        }
    }

    private static void tries(Check check, DomainHouse house, int... want) {
        for (int what = 0; what < want.length; what++) {
            check.due("tries " + what, house.tries(what), want[what]);
        }
    }

    // ---- wishes

    private static void clears(Check check) {
        check.promise(44, "All WAYS that are WISHED are gone: how many there were.");
        DomainHouse house = new DomainHouse();
        check.due("none", house.clear(), 0);
        wish(house, 1, 0);
        wish(house, 6, 0);
        wish(house, 6, 1, 0);
        check.due("three", house.clear(), 3);
        check.due("gone", house.clear(), 0);
        check.due("one rest, without WAYS", house.rests(), 1);
        check.due("none", house.rest(0, 1), -4);
        check.due("it may be WISHED again, as the first one", wish(house, 6, 1, 0), 1);
        check.due("THE WAY IN HAND stays", house.count(10), 3);
    }

    private static void wishes(Check check) {
        check.promise(45, "THE WAY IN HAND is WISHED by its first PLACE (DOMAINS there or not count as PLACES), behind what it wishes already: how many that has.");
        DomainHouse house = new DomainHouse();
        for (int place = 1; place <= 6; place++) {
            check.due("the shortest of " + place, wish(house, place, 0), 1);
        }
        check.due("a second one", wish(house, 1, 2, 0), 2);
        check.due("of another PLACE", wish(house, 2, 1, 0), 2);
        check.due("a third one", wish(house, 1, 3, 0), 3);
        check.due("rests", house.rests(), 1);
        check.due("the first one is the most wished", house.rest(0, 1), 0);
        Check.domains(house, 3);
        check.due("DOMAINS that are there change nothing", house.rests(), 1);
    }

    private static void longestWish(Check check) {
        check.promise(45, "over PLACES 0 .. 6 without one twice.");
        DomainHouse house = new DomainHouse();
        check.due("all PLACES", wish(house, 6, 5, 4, 3, 2, 1, 0), 1);
        check.due("all PLACES, another order", wish(house, 6, 1, 2, 3, 4, 5, 0), 2);
        check.due("eight numbers have one twice", wish(house, 6, 5, 4, 3, 2, 1, 6, 0), Check.BAD);
        for (int place = 1; place < 6; place++) {
            int[] tail = new int[place + 1];
            for (int i = 0; i <= place; i++) {
                tail[i] = place - i;
            }
            wish(house, tail);
        }
        check.due("the longest one can be had", house.rest(0, 6), 0);
        check.due("by six changes", house.tries(3), 6);
    }

    private static void wrongWishes(Check check) {
        check.promise(45, "BAD: it does not lead from 1 .. 6 to 0 over PLACES 0 .. 6 without one twice.");
        int[][] wrong = {
            {}, {0}, {1}, {6}, {1, 2}, {0, 0}, {0, 1}, {0, 1, 0}, {1, 0, 0}, {1, 1, 0}, {1, 2, 1, 0}, {1, 2, 2, 0}, {1, 0, 2, 0}, {7, 0}, {9, 0},
            {1, 7, 0}, {1, 8, 0}, {1, 2, 9, 0}, {6, 7, 5, 0}, {1, 0, 2}, {2, 1, 0, 3}, {1, 2, 3, 4, 5, 6},
            {1, 2, 3, 4, 5, 6, 7, 0}, {1, 2, 3, 4, 5, 6, 1, 0}, {1, 2, 3, 4, 5, 6, 0, 0},
            {1, 2, 3, 4, 5, 6, 7, 8, 9, 0, 1, 2, 3, 4, 5, 6, 7, 8, 9, 0},
        };
        DomainHouse house = new DomainHouse();
        wish(house, 1, 0);
        for (int[] way : wrong) {
            check.due("wish " + java.util.Arrays.toString(way), wish(house, way), Check.BAD);
            check.due("THE WAY IN HAND stays", house.count(10), way.length);
        }
        check.due("one is WISHED", house.clear(), 1);
    }

    private static void wishedAlready(Check check) {
        check.promise(45, "NO: it is WISHED already.");
        DomainHouse house = net(way(1, 0), way(1, 2, 0), way(2, 0));
        check.due("the first", wish(house, 1, 0), Check.NO);
        check.due("the second", wish(house, 1, 2, 0), Check.NO);
        check.due("of another PLACE", wish(house, 2, 0), Check.NO);
        check.due("the same PLACES in another order", wish(house, 2, 1, 0), 2);
        check.due("a longer one that begins alike", wish(house, 1, 2, 3, 0), 3);
        check.due("five", house.clear(), 5);
    }

    private static void fiveWishes(Check check) {
        check.promise(45, "FULL: 5.");
        check.term(7, "WISHED are by each other PLACE some WAYS (5 at most), the most wished first: rows of PLACES without one twice, from it to 0.");
        DomainHouse house = new DomainHouse();
        for (int i = 1; i <= 5; i++) {
            check.due("wish " + i, i == 1 ? wish(house, 6, 0) : wish(house, 6, i, 0), i);
        }
        check.due("the sixth", wish(house, 6, 1, 0), Check.FULL);
        check.due("NO stands ahead of it", wish(house, 6, 5, 0), Check.NO);
        check.due("BAD stands ahead of it", wish(house, 6, 7, 0), Check.BAD);
        check.due("another PLACE has room", wish(house, 5, 0), 1);
        check.due("six", house.clear(), 6);
        for (int i = 1; i <= 5; i++) {
            wish(house, 6, i, 0);
        }
        check.due("none of five is ever OFFERED", house.rest(0, 6), -4);
        check.due("so nothing changes", house.tries(0), 1);
    }

    // ---- rests

    private static void emptyNet(Check check) {
        check.promise(46, "How many RESTS there are.");
        DomainHouse house = new DomainHouse();
        check.due("one", house.rests(), 1);
        rest(check, house, 0);
        tries(check, house, 1, 1, 0, 0);
    }

    private static void aimAlways(Check check) {
        check.term(7, "(0 always has itself).");
        check.term(7, "A NET has PLACES 0 .. 6; PLACE 0 is the aim.");
        for (int place = 1; place <= 6; place++) {
            DomainHouse house = net(way(place, 0));
            check.due("one rest", house.rests(), 1);
            for (int other = 1; other <= 6; other++) {
                check.due("place " + other, house.rest(0, other), other == place ? 0 : -4);
            }
            tries(check, house, 2, 1, 0, 1);
        }
    }

    private static void offered(Check check) {
        check.term(7, "A WAY is OFFERED in it, if its second PLACE has just what comes behind its first one");
        DomainHouse never = net(way(1, 2, 0));
        check.due("2 wishes nothing", never.rest(0, 1), -4);
        DomainHouse other = net(way(1, 2, 0), way(2, 3, 0), way(3, 0));
        check.due("2 has another WAY", other.rest(0, 1), -4);
        check.due("2 has it", other.rest(0, 2), 0);
        DomainHouse just = net(way(1, 2, 3, 0), way(2, 3, 0), way(3, 0));
        check.due("just this", just.rest(0, 1), 0);
        DomainHouse longer = net(way(1, 2, 0), way(2, 3, 0), way(2, 0));
        check.due("without 3 its second one, which 1 takes", longer.rest(0, 1), 0);
        check.due("the second one", longer.rest(0, 2), 1);
    }

    private static void mostWishedFirst(Check check) {
        check.term(7, "A PLACE ACTS: it has then the first of its WAYS that is OFFERED, or none.");
        DomainHouse house = net(way(1, 2, 0), way(1, 3, 0), way(1, 4, 0), way(1, 5, 0), way(1, 0), way(5, 0), way(4, 0));
        check.due("one rest", house.rests(), 1);
        check.due("the third, as 2 and 3 have none", house.rest(0, 1), 2);
        check.due("as the fifth is OFFERED always, it comes first, or last", house.tries(3), 3);
        wish(house, 3, 0);
        check.due("the second then", house.rest(0, 1), 1);
        wish(house, 2, 0);
        check.due("the first then", house.rest(0, 1), 0);
    }

    private static void noRest(Check check) {
        check.term(7, "A STATE in which nothing changes whoever ACTS is a REST.");
        DomainHouse house = net(way(1, 2, 0), way(1, 0), way(2, 3, 0), way(2, 0), way(3, 1, 0), way(3, 0));
        check.due("no REST", house.rests(), 0);
        check.due("none of it", house.rest(0, 1), Check.BAD);
        check.due("none is come to", house.tries(1), 0);
        check.promise(48, "the least number of changes to come to a REST (3; NONE: none can be).");
        check.due("none can be", house.tries(3), Check.NONE);
    }

    /** Three pairs that disagree: eight rests. */
    private static DomainHouse pairs() {
        DomainHouse house = new DomainHouse();
        for (int place = 1; place <= 6; place += 2) {
            wish(house, place, place + 1, 0);
            wish(house, place, 0);
            wish(house, place + 1, place, 0);
            wish(house, place + 1, 0);
        }
        return house;
    }

    private static void manyRests(Check check) {
        check.promise(46, "How many RESTS there are.");
        DomainHouse house = pairs();
        check.due("eight", house.rests(), 8);
        check.due("the last one", house.rest(7, 1), 1);
        check.due("no ninth", house.rest(8, 1), Check.BAD);
        DomainHouse two = net(way(1, 2, 0), way(1, 0), way(2, 1, 0), way(2, 0));
        check.due("two", two.rests(), 2);
    }

    private static void orderOfRests(Check check) {
        check.term(7, "RESTS are in order by what PLACE 1 has, then 2 .. (by numbers, none last).");
        DomainHouse house = pairs();
        for (int i = 0; i < 8; i++) {
            int a = i >> 2 & 1;
            int b = i >> 1 & 1;
            int c = i & 1;
            rest(check, house, i, a, 1 - a, b, 1 - b, c, 1 - c);
        }
    }

    /** Place 1 wishes only over 2: in one rest it has that way, in the other none, which comes last. */
    private static void noneIsLast(Check check) {
        check.term(7, "(by numbers, none last).");
        DomainHouse house = net(way(1, 2, 0), way(2, 3, 0), way(2, 0), way(3, 2, 0), way(3, 0));
        check.due("two", house.rests(), 2);
        rest(check, house, 0, 0, 1, 0);
        rest(check, house, 1, -4, 0, 1);
        check.promise(47, "In the i-th REST, which of its WAYS a PLACE has; -4: none.");
        check.due("the second WAY is 1", house.rest(0, 2), 1);
        check.due("none", house.rest(1, 1), -4);
        check.due("a PLACE that wishes nothing", house.rest(0, 6), -4);
    }

    private static void wrongRests(Check check) {
        check.promise(47, "BAD: no such REST, PLACE 1 .. 6.");
        DomainHouse house = net(way(1, 2, 0), way(1, 0), way(2, 1, 0), way(2, 0));
        int[][] wrong = {{-1, 1}, {2, 1}, {LEAST, 1}, {MOST, 1}, {0, 0}, {0, 7}, {0, -1}, {0, LEAST}, {0, MOST}, {2, 7}};
        for (int[] one : wrong) {
            check.due("rest " + java.util.Arrays.toString(one), house.rest(one[0], one[1]), Check.BAD);
        }
        check.due("the last ones", house.rest(1, 6), -4);
        check.due("the first ones", house.rest(0, 1), 0);
    }

    // ---- tries

    private static void statesComeTo(Check check) {
        check.promise(48, "From the STATE in which none has a WAY, one PLACE after another ACTING in any order: how many STATES can be come to, that included (what = 0);");
        check.due("that alone", new DomainHouse().tries(0), 1);
        check.due("never OFFERED: that alone", net(way(1, 2, 0)).tries(0), 1);
        check.due("one PLACE", net(way(1, 0)).tries(0), 2);
        check.due("two PLACES", net(way(1, 0), way(2, 0)).tries(0), 4);
        check.due("one behind the other", net(way(1, 0), way(2, 1, 0)).tries(0), 3);
        check.due("six PLACES", net(way(1, 0), way(2, 0), way(3, 0), way(4, 0), way(5, 0), way(6, 0)).tries(0), 64);
        check.due("two that disagree", net(way(1, 2, 0), way(1, 0), way(2, 1, 0), way(2, 0)).tries(0), 5);
        check.promise(48, "how many of them are RESTS (1);");
        check.due("both", net(way(1, 2, 0), way(1, 0), way(2, 1, 0), way(2, 0)).tries(1), 2);
        check.due("one", net(way(1, 0)).tries(1), 1);
        DomainHouse far = net(way(1, 2, 0), way(2, 1, 0));
        check.due("one REST alone", far.rests(), 1);
        check.due("it is the first STATE", far.tries(1), 1);
    }

    private static void noRestFromThere(Check check) {
        check.promise(48, "from how many of them no REST can be come to (2);");
        DomainHouse none = net(way(1, 2, 0), way(1, 0), way(2, 3, 0), way(2, 0), way(3, 1, 0), way(3, 0));
        check.due("from all of them", none.tries(2), none.tries(0));
        DomainHouse all = net(way(1, 0), way(2, 1, 0));
        check.due("from none of them", all.tries(2), 0);
        DomainHouse gives = net(way(1, 2, 0), way(2, 3, 0), way(2, 0), way(3, 0));
        check.due("from none: 1 gives up its WAY when 2 has another", gives.tries(2), 0);
        check.due("that STATE is one of them", gives.tries(0), 8);
        DomainHouse trap = net(way(1, 2, 0), way(1, 0), way(2, 3, 0), way(2, 0), way(3, 1, 0), way(3, 0), way(4, 0));
        check.due("a fourth that settles changes nothing", trap.tries(2), trap.tries(0));
        DomainHouse some = net(way(4, 5, 0), way(4, 0), way(5, 4, 0), way(5, 0), way(1, 4, 0), way(1, 2, 0), way(1, 0), way(2, 3, 0), way(2, 0),
            way(3, 1, 0), way(3, 0));
        check.due("one RESTS, where 4 has its WAY to 0", some.rests(), 1);
        int bad = some.tries(2);
        check.due("from some of them", bad > 0 && bad < some.tries(0) ? 1 : 0, 1);
    }

    private static void leastChanges(Check check) {
        check.promise(48, "the least number of changes to come to a REST (3;");
        check.due("none is needed", new DomainHouse().tries(3), 0);
        check.due("one", net(way(1, 0)).tries(3), 1);
        check.due("two", net(way(1, 0), way(2, 1, 0)).tries(3), 2);
        check.due("two that disagree", net(way(1, 2, 0), way(1, 0), way(2, 1, 0), way(2, 0)).tries(3), 2);
        check.due("two, though 2 could change more often", net(way(1, 0), way(2, 1, 0), way(2, 0)).tries(3), 2);
        check.due("the pairs", pairs().tries(3), 6);
        check.due("their STATES", pairs().tries(0), 125);
    }

    private static void wrongTries(Check check) {
        check.promise(48, "BAD: another what.");
        DomainHouse house = net(way(1, 0));
        int[] wrong = {-1, 4, 5, LEAST, MOST};
        for (int what : wrong) {
            check.due("tries " + what, house.tries(what), Check.BAD);
        }
    }

    /** Five wishes of six places each: 6 to the 6th states, the most that there can be. */
    private static void fullNet(Check check) {
        check.term(7, "A STATE: each PLACE but 0 has one of its WAYS, or none.");
        DomainHouse house = new DomainHouse();
        for (int place = 1; place <= 6; place++) {
            wish(house, place, 0);
            for (int i = 1; i <= 4; i++) {
                wish(house, place, (place + i - 1) % 6 + 1, 0);
            }
        }
        check.due("one REST: all have their first", house.rests(), 1);
        rest(check, house, 0, 0, 0, 0, 0, 0, 0);
        tries(check, house, 64, 1, 0, 6);
        check.due("30 are WISHED", house.clear(), 30);
    }

    /** Three places, from this one on, that have six rests among themselves. */
    private static void wishInThree(DomainHouse house, int first) {
        for (int i = 0; i < 3; i++) {
            int place = first + i;
            int lesser = i == 0 ? first + 1 : first;
            int greater = i == 2 ? first + 1 : first + 2;
            wish(house, place, lesser, greater, 0);
            wish(house, place, greater, 0);
            wish(house, place, greater, lesser, 0);
            wish(house, place, lesser, 0);
            wish(house, place, 0);
        }
    }

    /** Two threes that know nothing of one another: each rest of the one with each of the other. */
    private static void thirtySixRests(Check check) {
        check.term(7, "RESTS are in order by what PLACE 1 has, then 2 .. (by numbers, none last).");
        DomainHouse three = new DomainHouse();
        wishInThree(three, 1);
        check.due("six", three.rests(), 6);
        DomainHouse house = new DomainHouse();
        wishInThree(house, 4);
        wishInThree(house, 1);
        check.due("36", house.rests(), 36);
        for (int i = 0; i < 36; i++) {
            for (int place = 1; place <= 3; place++) {
                check.due("rest " + i, house.rest(i, place), three.rest(i / 6, place));
                check.due("rest " + i, house.rest(i, place + 3), three.rest(i % 6, place));
            }
        }
        check.due("no 37th", house.rest(36, 1), Check.BAD);
        check.due("STATES", house.tries(0), three.tries(0) * three.tries(0));
        check.due("RESTS", house.tries(1), three.tries(1) * three.tries(1));
        check.due("changes", house.tries(3), 2 * three.tries(3));
        check.due("30 are WISHED", house.clear(), 30);
        check.due("one is left", house.rests(), 1);
    }

    private static void knownAnew(Check check) {
        check.promise(46, "How many RESTS there are.");
        DomainHouse house = net(way(1, 2, 0), way(1, 0));
        check.due("one", house.rests(), 1);
        tries(check, house, 2, 1, 0, 1);
        wish(house, 2, 1, 0);
        wish(house, 2, 0);
        check.due("two", house.rests(), 2);
        tries(check, house, 5, 2, 0, 2);
        check.due("refused: nothing changes", wish(house, 2, 0), Check.NO);
        check.due("two", house.rests(), 2);
        house.clear();
        tries(check, house, 1, 1, 0, 0);
        check.due("one", house.rests(), 1);
        check.due("no second", house.rest(1, 1), Check.BAD);
    }
}
