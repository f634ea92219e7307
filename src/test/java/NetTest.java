/** Promises 44 to 48: clear, wish, rests, rest, tries. */
public final class NetTest {
    public static void main(String[] args) {
        Check check = new Check("NetTest");
        wishes(check);
        emptyNet(check);
        disagree(check);
        badGadget(check);
        goodGadget(check);
        brokenWays(check);
        orderOfRests(check);
        fullNet(check);
        check.end();
    }

    private static int wish(DomainHouse house, int... places) {
        Check.walk(house, places);
        return house.wish();
    }

    private static void wishes(Check check) {
        DomainHouse house = new DomainHouse();
        check.due("empty", wish(house), Check.BAD);
        check.due("0 only", wish(house, 0), Check.BAD);
        check.due("from 0", wish(house, 0, 1, 0), Check.BAD);
        check.due("not to 0", wish(house, 1, 2), Check.BAD);
        check.due("over 0", wish(house, 1, 0, 2, 0), Check.BAD);
        check.due("twice", wish(house, 1, 2, 1, 0), Check.BAD);
        check.due("place 7", wish(house, 1, 7, 0), Check.BAD);
        check.due("from 7", wish(house, 7, 0), Check.BAD);
        check.due("one", wish(house, 1, 0), 1);
        check.due("there", wish(house, 1, 0), Check.NO);
        check.due("all places", wish(house, 1, 2, 3, 4, 5, 6, 0), 2);
        check.due("other place", wish(house, 6, 0), 1);
        check.due("third", wish(house, 1, 2, 0), 3);
        check.due("fourth", wish(house, 1, 3, 0), 4);
        check.due("fifth", wish(house, 1, 4, 0), 5);
        check.due("BAD ahead of all", wish(house, 1, 4), Check.BAD);
        check.due("NO ahead of FULL", wish(house, 1, 3, 0), Check.NO);
        check.due("FULL", wish(house, 1, 5, 0), Check.FULL);
        check.due("clear", house.clear(), 6);
        check.due("clear again", house.clear(), 0);
        check.due("anew", wish(house, 1, 5, 0), 1);
    }

    private static void tries(Check check, DomainHouse house, int... want) {
        for (int i = 0; i < want.length; i++) {
            check.due("tries " + i, house.tries(i), want[i]);
        }
        check.due("tries 4", house.tries(4), Check.BAD);
        check.due("tries -1", house.tries(-1), Check.BAD);
    }

    private static void rest(Check check, DomainHouse house, int i, int... want) {
        for (int place = 1; place <= 6; place++) {
            check.due("rest " + i + " of " + place, house.rest(i, place), place <= want.length ? want[place - 1] : Check.OWN);
        }
    }

    private static void emptyNet(Check check) {
        DomainHouse house = new DomainHouse();
        check.due("rests", house.rests(), 1);
        rest(check, house, 0);
        tries(check, house, 1, 1, 0, 0);
        check.due("rest 1", house.rest(1, 1), Check.BAD);
        check.due("rest -1", house.rest(-1, 1), Check.BAD);
        check.due("place 0", house.rest(0, 0), Check.BAD);
        check.due("place 7", house.rest(0, 7), Check.BAD);
    }

    private static void disagree(Check check) {
        DomainHouse house = new DomainHouse();
        wish(house, 1, 2, 0);
        wish(house, 1, 0);
        wish(house, 2, 1, 0);
        wish(house, 2, 0);
        check.due("rests", house.rests(), 2);
        rest(check, house, 0, 0, 1);
        rest(check, house, 1, 1, 0);
        tries(check, house, 5, 2, 0, 2);
        wish(house, 3, 0);
        check.due("known anew", house.rests(), 2);
        rest(check, house, 1, 1, 0, 0);
        tries(check, house, 10, 2, 0, 3);
        house.clear();
        check.due("known anew", house.rests(), 1);
        tries(check, house, 1, 1, 0, 0);
    }

    private static void badGadget(Check check) {
        DomainHouse house = new DomainHouse();
        for (int place = 1; place <= 3; place++) {
            wish(house, place, place % 3 + 1, 0);
            wish(house, place, 0);
        }
        check.due("rests", house.rests(), 0);
        check.due("rest 0", house.rest(0, 1), Check.BAD);
        check.due("no rest", house.tries(1), 0);
        check.due("from all of them none", house.tries(2), house.tries(0));
        check.due("least", house.tries(3), Check.NONE);
    }

    private static void goodGadget(Check check) {
        DomainHouse house = new DomainHouse();
        wish(house, 1, 0);
        wish(house, 2, 1, 0);
        wish(house, 2, 0);
        wish(house, 3, 2, 1, 0);
        check.due("rests", house.rests(), 1);
        rest(check, house, 0, 0, 0, 0);
        check.due("least", house.tries(3), 3);
        check.due("from all", house.tries(2), 0);
    }

    /** A way whose next place does not wish for the rest of it is never offered. */
    private static void brokenWays(Check check) {
        DomainHouse house = new DomainHouse();
        wish(house, 1, 2, 0);
        check.due("rests", house.rests(), 1);
        rest(check, house, 0);
        wish(house, 2, 3, 0);
        wish(house, 3, 0);
        check.due("still not", house.rest(0, 1), Check.OWN);
        check.due("but 2", house.rest(0, 2), 0);
        wish(house, 2, 0);
        check.due("2 wishes more for the other", house.rest(0, 2), 0);
        check.due("1 none", house.rest(0, 1), Check.OWN);
    }

    /** Three pairs that disagree: eight rests, by what place 1 has, then 2, and so on. */
    private static void orderOfRests(Check check) {
        DomainHouse house = new DomainHouse();
        for (int place = 1; place <= 6; place += 2) {
            wish(house, place, place + 1, 0);
            wish(house, place, 0);
            wish(house, place + 1, place, 0);
            wish(house, place + 1, 0);
        }
        check.due("rests", house.rests(), 8);
        for (int i = 0; i < 8; i++) {
            int a = i >> 2 & 1;
            int b = i >> 1 & 1;
            int c = i & 1;
            rest(check, house, i, a, 1 - a, b, 1 - b, c, 1 - c);
        }
        tries(check, house, 125, 8, 0, 6);
    }

    private static void fullNet(Check check) {
        DomainHouse house = new DomainHouse();
        for (int place = 1; place <= 6; place++) {
            for (int i = 1; i <= 4; i++) {
                int next = (place + i - 1) % 6 + 1;
                wish(house, place, next, 0);
            }
            check.due("five", wish(house, place, 0), 5);
        }
        check.due("clear tells all", house.rests() >= 0 ? 30 : 0, 30);
        int reached = house.tries(0);
        check.due("no more states than there are", reached > 6 && reached <= 46656 ? 1 : 0, 1);
        check.due("all", house.clear(), 30);
    }
}
