/** Houses in several states, each made by the same calls every time, so that two of them are twins. */
final class Scene {
    static final int TEN = 10 << 24;

    private Scene() {
    }

    /** Domains 0 .. n - 1, each a provider of the next one, and 10.0.0.0/8. */
    static DomainHouse chain(int n) {
        DomainHouse house = new DomainHouse();
        house.prefix(TEN, 8);
        Check.domains(house, n);
        for (int i = 0; i + 1 < n; i++) {
            house.tie(i, i + 1, 0);
        }
        return house;
    }

    /** Domain 0 is a provider of each of 1 .. n over ties 0 .. n - 1; and 10.0.0.0/8. */
    static DomainHouse star(int n) {
        DomainHouse house = new DomainHouse();
        house.prefix(TEN, 8);
        Check.domains(house, n + 1);
        for (int i = 1; i <= n; i++) {
            house.tie(0, i, 0);
        }
        return house;
    }

    /** Three of most things, all at work: events to come, a wait, a tie that is down, all that can be in hand. */
    static DomainHouse busy() {
        DomainHouse house = new DomainHouse();
        house.prefix(TEN, 8);
        house.prefix(TEN, 16);
        house.prefix(11 << 24, 8);
        Check.domains(house, 4);
        house.tie(0, 1, 0);
        house.tie(1, 2, 1);
        house.tie(2, 0, 2);
        house.tie(3, 1, 0);
        house.pace(1, 7, 30);
        Check.policy(house, "if tie equal then wish 150,add 4;");
        Check.policy(house, "if right bad then bar;");
        Check.policy(house, "call 0,more 1;");
        house.use(1, 0, 1, 2);
        house.use(0, 1, 0, 1);
        house.rule(2, 214, true);
        house.right(0, 16, 0, 0, 50, 3);
        house.right(2, 8, 1, 2, 9, 0);
        house.right(1, 20, 2, 0, 90, 5);
        house.strike(2, 60);
        house.today(6);
        house.announce(0, 0, 1);
        house.announce(1, 1, 2);
        house.go(3);
        house.announce(1, 1, 0);
        house.raise(3, false);
        Wire.hear(house, 2, 0, new Wire().origin(1).way(2, 77).cost(12).marks(9, 3).announce(11 << 24, 8));
        house.write(1, 0, 1);
        house.letter(2, TEN + 1);
        house.demand(0, TEN, 5);
        house.demand(2, 11 << 24, 70);
        int[][] wishes = {{1, 2, 0}, {1, 0}, {2, 1, 0}, {2, 0}, {3, 1, 0}};
        for (int[] wish : wishes) {
            Check.walk(house, wish);
            house.wish();
        }
        house.picked(1, 1);
        Check.walk(house, 0, 1, 2);
        Check.tape(house, "if from 1 then bar;");
        return house;
    }

    /** All that has a limit is at it. */
    static DomainHouse full() {
        DomainHouse house = new DomainHouse();
        for (int i = 0; i < 10; i++) {
            house.prefix(i << 24, 8);
            house.domain();
        }
        for (int i = 0; i < 10; i++) {
            house.tie(i, (i + 1) % 10, i % 3);
            house.tie(i, (i + 2) % 10, 1);
        }
        for (int i = 0; i < 30; i++) {
            house.right(i % 10, 8 + i % 25, i % 9, i, i + 9, i);
        }
        for (int i = 0; i < 12; i++) {
            Check.policy(house, "cost " + i + ";");
        }
        for (int i = 0; i < 16; i++) {
            house.demand(i % 10, i << 24, 1000000);
        }
        house.announce(3, 7, 1);
        house.announce(9, 0, 0);
        house.go(5);
        for (int i = 2; i <= 6; i++) {
            Check.walk(house, 1, i, 0);
            house.wish();
        }
        house.strike(0, 5);
        house.walk(-1);
        for (int i = 0; i < 20; i++) {
            house.walk(i % 10);
        }
        house.route(9, 1000, 2, 1000000);
        for (int i = 0; i < 50; i++) {
            house.feed(i, 0, 0, 0, 0);
        }
        return house;
    }
}
