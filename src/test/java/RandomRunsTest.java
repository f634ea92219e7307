import java.util.List;
import java.util.Random;

/** Random runs of calls, the same on the class and on the naive house: policies, routes in time, letters. */
public final class RandomRunsTest {
    private static final int RUNS = 1000;
    private static final int CALLS = 150;

    private final Check check;
    private final Random random;
    private final DomainHouse house = new DomainHouse();
    private final NaiveHouse naive = new NaiveHouse();
    private final String run;
    private final boolean star;

    private RandomRunsTest(Check check, int seed) {
        this.check = check;
        random = new Random(seed);
        run = "run " + seed + ": ";
        star = seed % 3 == 0;
    }

    public static void main(String[] args) {
        Check check = new Check("RandomRunsTest");
        for (int seed = 0; seed < RUNS; seed++) {
            new RandomRunsTest(check, seed).play();
        }
        check.end();
    }

    private void play() {
        int domains = 2 + random.nextInt(random.nextInt(5) == 0 ? 9 : 4);
        for (int i = 0; i < domains; i++) {
            house.domain();
            naive.addDomain();
        }
        makePrefix();
        int ties = 1 + random.nextInt(random.nextInt(5) == 0 ? 20 : 2 * domains);
        for (int i = 0; i < ties; i++) {
            makeTie();
        }
        for (int i = 1; star && i < domains; i++) {
            int other = random.nextInt(domains);
            if (house.tie(other, 0, 1) >= 0) {
                naive.addTie(other, 0, 1);
            }
        }
        for (int i = 0; i < CALLS; i++) {
            change();
            look();
        }
        compareAll();
    }

    private int domain() {
        return random.nextInt(naive.rules.size());
    }

    private int prefix() {
        return random.nextInt(naive.prefixes.size());
    }

    private int tie() {
        return random.nextInt(naive.ties.size());
    }

    private int address() {
        NaiveHouse.Prefix near = naive.prefixes.get(prefix());
        int wild = random.nextInt() >>> random.nextInt(32);
        return random.nextInt(4) == 0 ? random.nextInt() : near.address() ^ wild;
    }

    private void makePrefix() {
        int length = random.nextInt(4) == 0 ? random.nextInt(33) : random.nextInt(6);
        int address = length == 0 ? 0 : (random.nextBoolean() ? 10 << 24 : random.nextInt()) & -1 << 32 - length;
        if (house.prefix(address, length) >= 0) {
            naive.prefixes.add(new NaiveHouse.Prefix(address, length));
        }
    }

    private void makeTie() {
        int a = domain();
        int b = domain();
        int kind = random.nextInt(3);
        if (house.tie(a, b, kind) >= 0) {
            naive.addTie(a, b, kind);
        }
    }

    private void makePolicy() {
        NaivePolicy policy = NaivePolicy.random(random, naive);
        String text = policy.text();
        if (text.length() > 1000) {
            return;
        }
        int there = naive.policies.size();
        NaiveReader.Fault fault = NaiveReader.fault(text, there);
        int number = there < 12 ? there : Check.FULL;
        check.due(run + "policy " + text, Check.policy(house, text), fault.kind() == 0 ? number : -10 - fault.place());
        if (fault.kind() == 0 && there < 12) {
            naive.policies.add(policy);
        }
    }

    private void change() {
        if (naive.ties.isEmpty()) {
            makeTie();
            return;
        }
        if (star && random.nextBoolean()) {
            if (random.nextInt(3) == 0) {
                rule();
            } else {
                hear();
            }
            return;
        }
        switch (random.nextInt(16)) {
            case 0:
                makePrefix();
                break;
            case 1:
                makeTie();
                break;
            case 2:
            case 3:
                makePolicy();
                break;
            case 4:
                pace();
                break;
            case 5:
                raise();
                break;
            case 6:
            case 7:
                use();
                break;
            case 8:
                rule();
                break;
            case 9:
            case 10:
                announce();
                break;
            case 11:
                withdraw();
                break;
            case 12:
                rights();
                break;
            case 13:
                hear();
                break;
            default:
                pass();
                break;
        }
    }

    private void pace() {
        int tie = tie();
        naive.ties.get(tie).delay = 1 + random.nextInt(random.nextInt(3) == 0 ? 20 : 3);
        naive.ties.get(tie).gap = random.nextInt(2) * random.nextInt(12);
        house.pace(tie, naive.ties.get(tie).delay, naive.ties.get(tie).gap);
    }

    private void raise() {
        int tie = tie();
        boolean up = random.nextBoolean();
        check.due(run + "raise", house.raise(tie, up), naive.ties.get(tie).up ? 1 : 0);
        naive.raise(tie, up);
    }

    private void use() {
        int tie = tie();
        int side = random.nextInt(2);
        int way = random.nextInt(2);
        Integer policy = naive.policies.isEmpty() || random.nextInt(4) == 0 ? null : random.nextInt(naive.policies.size());
        check.due(run + "use", house.use(tie, side, way, policy == null ? Check.NONE : policy), 0);
        naive.ties.get(tie).policies[side * 2 + way] = policy;
        if (way == 0) {
            naive.lookAtAll(naive.ties.get(tie).end(side));
        } else {
            naive.sayAll(tie, side);
        }
    }

    private void rule() {
        int domain = star ? 0 : domain();
        StringBuilder steps = new StringBuilder();
        String left = "123456";
        for (int i = random.nextInt(7); i > 0; i--) {
            int at = random.nextInt(left.length());
            steps.append(left.charAt(at));
            left = left.substring(0, at) + left.substring(at + 1);
        }
        boolean grouped = random.nextBoolean();
        int number = steps.length() == 0 ? 0 : Integer.parseInt(steps.toString());
        check.due(run + "rule", house.rule(domain, number, grouped), 0);
        naive.rules.set(domain, steps.toString());
        naive.grouped.set(domain, grouped);
        naive.lookAtAll(domain);
    }

    private void announce() {
        int domain = domain();
        int prefix = prefix();
        int origin = random.nextInt(3);
        List<Integer> place = List.of(domain, prefix);
        boolean so = naive.begun.containsKey(place) && naive.begun.get(place) == origin;
        check.due(run + "announce", house.announce(domain, prefix, origin), so ? Check.NO : 0);
        naive.begun.put(place, origin);
        naive.look(domain, prefix);
    }

    private void withdraw() {
        int domain = domain();
        int prefix = prefix();
        boolean so = naive.begun.remove(List.of(domain, prefix)) != null;
        check.due(run + "withdraw", house.withdraw(domain, prefix), so ? 0 : Check.NO);
        naive.look(domain, prefix);
    }

    private void rights() {
        int day = random.nextInt(4);
        int kind = random.nextInt(3);
        if (kind == 0) {
            check.due(run + "today", house.today(day), naive.today);
            naive.today = day;
            naive.tellAllAnew();
        } else if (kind == 1 && naive.rights.size() < 30) {
            int prefix = prefix();
            int length = naive.prefixes.get(prefix).length();
            int most = length + random.nextInt(33 - length);
            int domain = domain();
            int to = day + 1 + random.nextInt(3);
            int known = random.nextInt(3);
            check.due(run + "right", house.right(prefix, most, domain, day, to, known), naive.rights.size());
            naive.rights.add(new NaiveHouse.Right(prefix, most, domain, day, to, known, new int[] {-1}));
            naive.tellAllAnew();
        } else if (!naive.rights.isEmpty()) {
            int number = random.nextInt(naive.rights.size());
            NaiveHouse.Right right = naive.rights.get(number);
            int struck = right.known() + day;
            boolean first = right.struck()[0] < 0;
            check.due(run + "strike", house.strike(number, struck), first ? 0 : Check.NO);
            if (first) {
                right.struck()[0] = struck;
                naive.tellAllAnew();
            }
        }
    }

    private void hear() {
        int tie = tie();
        int side = star && naive.ties.get(tie).b == 0 ? 1 : random.nextInt(2);
        int prefix = prefix();
        NaiveHouse.Prefix told = naive.prefixes.get(prefix);
        Wire wire = new Wire();
        NaiveHouse.Route route = null;
        if (random.nextInt(4) == 0) {
            wire.withdraw(told.address(), told.length());
        } else {
            int[] way = new int[random.nextInt(random.nextInt(6) == 0 ? 21 : 4)];
            for (int i = 0; i < way.length; i++) {
                way[i] = random.nextInt(5) == 0 ? random.nextInt() : random.nextInt(12);
                way[i] = star ? 70 - random.nextInt(3) * 71 : way[i];
            }
            int origin = random.nextInt(3);
            int cost = random.nextInt(4);
            int mark = random.nextInt(11);
            wire.origin(origin).way(way).cost(cost).marks(mark).announce(told.address(), told.length());
            route = new NaiveHouse.Route(prefix, java.util.Arrays.stream(way).boxed().toList(), 100, origin, cost, List.of(mark));
        }
        boolean up = naive.ties.get(tie).up;
        check.due(run + "hear", Wire.hear(house, tie, side, wire), up ? 1 : Check.NO);
        if (up) {
            naive.hear(tie, side, prefix, route);
        }
    }

    private void pass() {
        if (random.nextBoolean()) {
            int n = 1 + random.nextInt(random.nextBoolean() ? 5 : 60);
            int did = 0;
            while (did < n && naive.doNext(2000000000)) {
                did++;
            }
            check.due(run + "go", house.go(n), did);
        } else {
            int moment = naive.clock + random.nextInt(8);
            int did = 0;
            while (did < 500 && naive.doNext(moment)) {
                did++;
            }
            boolean all = naive.events.stream().allMatch(event -> event.moment() > moment);
            naive.clock = all ? moment : naive.clock;
            check.due(run + "until", house.until(moment), did);
        }
    }

    private void look() {
        if (naive.ties.isEmpty()) {
            return;
        }
        if (star) {
            comparePicked(0, prefix());
        }
        check.due(run + "clock", house.count(7), naive.clock);
        check.due(run + "to come", house.count(8), naive.events.size());
        check.due(run + "done", house.count(9), naive.done);
        switch (random.nextInt(6)) {
            case 0:
                comparePicked(domain(), prefix());
                break;
            case 1:
                compareTold(tie(), random.nextInt(2), prefix());
                break;
            case 2:
                compareLetter(domain(), address());
                break;
            case 3:
                int a = domain();
                int b = domain();
                check.due(run + "differ", house.differ(a, b), naive.differ(a, b, 0, 0));
                break;
            case 4:
                int p = prefix();
                int number = random.nextInt(5);
                check.due(run + "verdict", house.verdict(p, number, 1, 2), naive.verdict(p, number, 1, 2));
                break;
            default:
                int domain = domain();
                check.due(run + "least", house.least(domain), naive.least(domain));
                break;
        }
    }

    private void compareAll() {
        for (int p = 0; p < naive.prefixes.size(); p++) {
            for (int d = 0; d < naive.rules.size(); d++) {
                comparePicked(d, p);
            }
            for (int t = 0; t < naive.ties.size(); t++) {
                compareTold(t, 0, p);
                compareTold(t, 1, p);
            }
        }
    }

    private void comparePicked(int domain, int prefix) {
        NaiveHouse.Picked mine = naive.picked.get(List.of(domain, prefix));
        check.due(run + "picked", house.picked(domain, prefix), mine == null ? Check.NONE : mine.tie());
        if (mine != null) {
            compareHand(mine.route());
        }
        for (int k = 0; k < 3; k++) {
            check.due(run + "three", house.three(domain, prefix, k), naive.three(domain, prefix, k));
        }
    }

    private void compareTold(int tie, int side, int prefix) {
        NaiveHouse.Key key = new NaiveHouse.Key(tie, side, prefix);
        for (int what = 0; what < 2; what++) {
            NaiveHouse.Told told = what == 0 ? naive.heard.get(key) : naive.said.get(key);
            boolean there = told != null && told.route() != null;
            check.due(run + "heard " + what, house.heard(tie, side, prefix, what), there ? told.when() : Check.NONE);
            if (there) {
                compareHand(told.route());
            }
        }
        check.due(run + "why", house.why(tie, side, prefix), naive.why(tie, side, prefix));
    }

    private void compareHand(NaiveHouse.Route route) {
        check.due(run + "prefix", house.hand(0), route.prefix());
        check.due(run + "wish", house.hand(1), route.wish());
        check.due(run + "origin", house.hand(2), route.origin());
        check.due(run + "cost", house.hand(3), route.cost());
        check.due(run + "length", house.hand(4), route.way().size());
        check.due(run + "marks", house.hand(5), route.marks().size());
        for (int i = 0; i < route.way().size(); i++) {
            check.due(run + "way", house.hand(10 + i), route.way().get(i));
        }
        for (int i = 0; i < route.marks().size(); i++) {
            check.due(run + "mark", house.hand(100 + i), route.marks().get(i));
        }
    }

    private void compareLetter(int domain, int address) {
        List<Integer> met = naive.letter(domain, address);
        check.due(run + "letter", house.letter(domain, address), met.get(met.size() - 1));
        int[] row = met.subList(0, met.size() - 1).stream().mapToInt(Integer::intValue).toArray();
        check.dueRow(run + "led", house::led, row);
    }
}
