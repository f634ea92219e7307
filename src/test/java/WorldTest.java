import java.util.ArrayList;
import java.util.Arrays;
import java.util.List;
import java.util.Random;

/** Promises 4 to 12: prefix, domain, tie, pace, raise, cone, ring, walk, letWay. */
public final class WorldTest {
    private static final int PROVIDER = 0;
    private static final int EQUALS = 1;
    private static final int KIN = 2;

    public static void main(String[] args) {
        Check check = new Check("WorldTest");
        prefixes(check);
        domainsAndTies(check);
        pace(check);
        raise(check);
        cone(check);
        ring(check);
        ringOfLikeOnes(check);
        walk(check);
        letWay(check);
        for (int seed = 0; seed < 500; seed++) {
            randomNet(check, new Random(seed));
        }
        check.end();
    }

    private static void prefixes(Check check) {
        DomainHouse house = new DomainHouse();
        check.due("whole", house.prefix(0, 0), 0);
        check.due("there", house.prefix(0, 0), Check.NO);
        check.due("same address, other length", house.prefix(0, 1), 1);
        check.due("bits behind 0", house.prefix(Integer.MIN_VALUE, 0), Check.BAD);
        check.due("high half", house.prefix(Integer.MIN_VALUE, 1), 2);
        check.due("bits behind 31", house.prefix(-1, 31), Check.BAD);
        check.due("last address", house.prefix(-1, 32), 3);
        check.due("length 33", house.prefix(0, 33), Check.BAD);
        check.due("length -1", house.prefix(0, -1), Check.BAD);
        for (int i = 4; i < 10; i++) {
            check.due("prefix " + i, house.prefix(i << 24, 8), i);
        }
        check.due("BAD ahead of FULL", house.prefix(1, 8), Check.BAD);
        check.due("NO ahead of FULL", house.prefix(0, 0), Check.NO);
        check.due("FULL", house.prefix(99 << 24, 8), Check.FULL);
        check.due("count", house.count(0), 10);
    }

    private static void domainsAndTies(Check check) {
        DomainHouse house = new DomainHouse();
        check.due("no domains", house.tie(0, 1, 0), Check.BAD);
        for (int i = 0; i < 10; i++) {
            check.due("domain", house.domain(), i);
        }
        check.due("domain FULL", house.domain(), Check.FULL);
        check.due("one", house.tie(3, 3, 0), Check.BAD);
        check.due("kind 3", house.tie(0, 1, 3), Check.BAD);
        check.due("kind -1", house.tie(0, 1, -1), Check.BAD);
        check.due("domain 10", house.tie(0, 10, 0), Check.BAD);
        check.due("domain -1", house.tie(-1, 0, 0), Check.BAD);
        int made = 0;
        for (int a = 0; a < 10 && made < 20; a++) {
            for (int b = a + 1; b < 10 && made < 20; b++) {
                check.due("tie", house.tie(a, b, made % 3), made);
                made++;
            }
        }
        check.due("BAD ahead of FULL", house.tie(9, 8, 3), Check.BAD);
        check.due("NO ahead of FULL", house.tie(1, 0, 0), Check.NO);
        check.due("FULL", house.tie(9, 8, 0), Check.FULL);
        check.due("count", house.count(2), 20);
    }

    private static void pace(Check check) {
        DomainHouse house = new DomainHouse();
        Check.domains(house, 2);
        house.prefix(0, 0);
        check.due("no tie", house.pace(0, 1, 0), Check.BAD);
        house.tie(0, 1, 0);
        check.due("delay 0", house.pace(0, 0, 0), Check.BAD);
        check.due("delay 1001", house.pace(0, 1001, 0), Check.BAD);
        check.due("gap -1", house.pace(0, 1, -1), Check.BAD);
        check.due("gap 1001", house.pace(0, 1, 1001), Check.BAD);
        house.announce(0, 0, 0);
        check.due("delay 1 at first, what is under way keeps it", house.pace(0, 1000, 1000), 0);
        check.due("one", house.go(9), 1);
        check.due("at", house.count(7), 1);
        house.announce(0, 0, 1);
        check.due("it waits", house.go(1), 1);
        check.due("at the gap", house.count(7), 1000);
        check.due("it arrives", house.go(1), 1);
        check.due("a delay later", house.count(7), 2000);
    }

    private static void raise(Check check) {
        DomainHouse house = new DomainHouse();
        Check.domains(house, 2);
        house.prefix(0, 0);
        house.announce(0, 0, 0);
        check.due("no tie", house.raise(0, true), Check.BAD);
        house.tie(0, 1, 0);
        check.due("nothing is said by tie()", house.count(8), 0);
        check.due("up already: says all", house.raise(0, true), 1);
        check.due("said", house.count(8), 1);
        check.due("again: nothing new", house.raise(0, true), 1);
        check.due("still one", house.count(8), 1);
        check.due("falls", house.raise(0, false), 1);
        check.due("its events are gone", house.count(8), 0);
        check.due("is down already", house.raise(0, false), 0);
        check.due("comes back", house.raise(0, true), 0);
        check.due("said again", house.count(8), 1);
        check.due("tie -1", house.raise(-1, false), Check.BAD);
    }

    private static void cone(Check check) {
        DomainHouse house = new DomainHouse();
        Check.domains(house, 6);
        house.tie(0, 1, PROVIDER);
        house.tie(1, 2, PROVIDER);
        house.tie(3, 2, PROVIDER);
        house.tie(0, 4, EQUALS);
        house.tie(0, 5, KIN);
        house.raise(1, false);
        check.due("all", house.cone(0, -1), 3);
        check.due("itself", house.cone(0, 0), 1);
        check.due("over a tie that is down", house.cone(0, 2), 1);
        check.due("not upwards", house.cone(2, 1), 0);
        check.due("alone", house.cone(2, -1), 1);
        check.due("no equals", house.cone(0, 4), 0);
        check.due("no kin", house.cone(0, 5), 0);
        check.due("other -2", house.cone(0, -2), Check.BAD);
        check.due("other 6", house.cone(0, 6), Check.BAD);
        check.due("domain -1", house.cone(-1, -1), Check.BAD);
        house.tie(2, 0, PROVIDER);
        check.due("a ring", house.cone(2, -1), 3);
    }

    private static void ring(Check check) {
        DomainHouse house = new DomainHouse();
        Check.domains(house, 8);
        house.tie(0, 1, PROVIDER);
        house.tie(1, 2, PROVIDER);
        house.tie(2, 3, PROVIDER);
        house.tie(5, 6, PROVIDER);
        house.tie(6, 7, PROVIDER);
        check.due("none", house.ring(0), Check.NONE);
        house.tie(7, 5, PROVIDER);
        check.dueRow("that of 5", house::ring, 5, 6, 7);
        house.tie(3, 4, PROVIDER);
        house.tie(4, 1, PROVIDER);
        check.dueRow("the least domain in any, 0 is in none", house::ring, 1, 2, 3, 4);
        house.raise(0, false);
        house.tie(2, 4, PROVIDER);
        check.dueRow("the shorter one", house::ring, 1, 2, 4);
        check.due("-1", house.ring(-1), Check.NONE);
    }

    private static void ringOfLikeOnes(Check check) {
        DomainHouse house = new DomainHouse();
        Check.domains(house, 10);
        house.tie(1, 9, PROVIDER);
        house.tie(9, 2, PROVIDER);
        house.tie(2, 1, PROVIDER);
        house.tie(1, 8, PROVIDER);
        house.tie(8, 7, PROVIDER);
        house.tie(7, 1, PROVIDER);
        house.tie(8, 2, PROVIDER);
        check.dueRow("of like ones the lesser", house::ring, 1, 8, 2);
        house.tie(1, 3, EQUALS);
        house.tie(3, 2, PROVIDER);
        check.dueRow("equals are no providers", house::ring, 1, 8, 2);
    }

    private static void walk(Check check) {
        DomainHouse house = new DomainHouse();
        check.due("10", house.walk(10), Check.BAD);
        check.due("-2", house.walk(-2), Check.BAD);
        for (int i = 1; i <= 20; i++) {
            check.due("walk " + i, house.walk(i % 10), i);
        }
        check.due("BAD ahead of FULL", house.walk(10), Check.BAD);
        check.due("FULL", house.walk(9), Check.FULL);
        check.due("count", house.count(10), 20);
        check.due("empty", house.walk(-1), 0);
        check.due("count", house.count(10), 0);
    }

    private static void letWay(Check check) {
        DomainHouse house = new DomainHouse();
        Check.domains(house, 8);
        house.tie(1, 0, PROVIDER);
        house.tie(2, 1, PROVIDER);
        house.tie(2, 3, EQUALS);
        house.tie(3, 4, PROVIDER);
        house.tie(3, 5, EQUALS);
        house.tie(4, 6, KIN);
        house.tie(6, 7, PROVIDER);
        house.raise(2, false);
        way(check, house, 0, 0, 1, 2, 3, 4, 6, 7);
        way(check, house, 0);
        way(check, house, 0, 9);
        way(check, house, 1, 9, 0);
        way(check, house, 1, 0, 0);
        way(check, house, 3, 0, 1, 0, 1);
        way(check, house, 3, 1, 2, 3, 5);
        way(check, house, 3, 1, 2, 3, 2, 3);
        way(check, house, 5, 2, 3, 4, 6, 4, 3);
        way(check, house, 2, 3, 4, 3);
        way(check, house, 1, 0, 2);
        way(check, house, 3, 7, 6, 4, 0);
        way(check, house, 0, 4, 6, 4, 3, 2, 1, 0);
    }

    private static void way(Check check, DomainHouse house, int want, int... numbers) {
        Check.walk(house, numbers);
        check.due("letWay " + Arrays.toString(numbers), house.letWay(), want);
    }

    /** Rings, cones and ways of a random net, by trying all. */
    private static void randomNet(Check check, Random random) {
        DomainHouse house = new DomainHouse();
        int domains = 2 + random.nextInt(8);
        Check.domains(house, domains);
        int[][] step = new int[10][10];
        for (int i = random.nextInt(20); i > 0; i--) {
            int a = random.nextInt(domains);
            int b = random.nextInt(domains);
            int kind = random.nextInt(4) / 2 * random.nextInt(3);
            if (house.tie(a, b, kind) >= 0) {
                step[a][b] = kind == PROVIDER ? 3 : kind;
                step[b][a] = kind == PROVIDER ? 4 : kind;
            }
        }
        List<Integer> best = null;
        for (int start = 0; start < domains && best == null; start++) {
            best = shortest(step, new ArrayList<>(List.of(start)), null);
        }
        check.dueRow("ring", house::ring, best == null ? new int[0] : best.stream().mapToInt(Integer::intValue).toArray());
        for (int d = 0; d < domains; d++) {
            boolean[] inside = new boolean[10];
            enter(step, d, inside);
            int size = 0;
            for (int other = 0; other < domains; other++) {
                size += inside[other] ? 1 : 0;
                check.due("cone", house.cone(d, other), inside[other] ? 1 : 0);
            }
            check.due("cone", house.cone(d, -1), size);
        }
        for (int i = 0; i < 20; i++) {
            randomWay(check, house, step, random);
        }
    }

    private static List<Integer> shortest(int[][] step, List<Integer> row, List<Integer> best) {
        int last = row.get(row.size() - 1);
        if (best != null && row.size() >= best.size()) {
            return best;
        }
        if (row.size() > 2 && step[last][row.get(0)] == 3) {
            return new ArrayList<>(row);
        }
        for (int next = 0; next < 10; next++) {
            if (step[last][next] == 3 && !row.contains(next)) {
                row.add(next);
                best = shortest(step, row, best);
                row.remove(row.size() - 1);
            }
        }
        return best;
    }

    private static void enter(int[][] step, int domain, boolean[] inside) {
        inside[domain] = true;
        for (int next = 0; next < 10; next++) {
            if (step[domain][next] == 3 && !inside[next]) {
                enter(step, next, inside);
            }
        }
    }

    /** Its steps as a text: P to a provider, E to an equal, C to a customer, nothing to kin, x where no tie is. */
    private static void randomWay(Check check, DomainHouse house, int[][] step, Random random) {
        List<Integer> row = new ArrayList<>(List.of(random.nextInt(10)));
        int want = 0;
        String steps = "";
        for (int i = random.nextInt(6); i > 0; i--) {
            int from = row.get(row.size() - 1);
            int to = random.nextInt(10);
            for (int k = 0; k < 9 && step[from][to] == 0; k++) {
                to = random.nextInt(10);
            }
            row.add(to);
            int kind = step[from][to];
            steps += kind == 4 ? "P" : kind == 3 ? "C" : kind == EQUALS ? "E" : kind == KIN ? "" : "x";
            want = want == 0 && !steps.matches("P*E?C*") ? row.size() - 1 : want;
        }
        way(check, house, want, row.stream().mapToInt(Integer::intValue).toArray());
    }
}
