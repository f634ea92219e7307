import java.util.ArrayList;
import java.util.Comparator;
import java.util.HashMap;
import java.util.HashSet;
import java.util.List;
import java.util.Map;
import java.util.Set;

/** The document's parts 1, 2, 4 and 6 once more, with lists and maps and no thought of speed: an oracle for tests. */
final class NaiveHouse {
    static final int NONE = DomainHouse.NONE;
    static final int OWN = -4;

    record Prefix(int address, int length) {
        boolean holds(int other) {
            return length == 0 || (address ^ other) >>> 32 - length == 0;
        }

        boolean holds(Prefix other) {
            return length <= other.length && holds(other.address);
        }
    }

    record Route(int prefix, List<Integer> way, int wish, int origin, int cost, List<Integer> marks) {
        Route withWish(int other) {
            return new Route(prefix, way, other, origin, cost, marks);
        }
    }

    record Right(int prefix, int most, int domain, int from, int to, int known, int[] struck) {
    }

    record Key(int tie, int side, int prefix) {
    }

    /** A route or null, and when it was heard or said. */
    record Told(Route route, int when) {
    }

    record Event(int moment, long made, Key key, boolean waits, Route route) {
    }

    record Candidate(int tie, int partner, Route route, int when) {
    }

    /** The tie, and the route. */
    record Picked(int tie, Route route) {
    }

    static final class Tie {
        int a;
        int b;
        int kind;
        boolean up = true;
        int delay = 1;
        int gap;
        Integer[] policies = new Integer[4];

        int end(int side) {
            return side == 0 ? a : b;
        }

        String role(int side) {
            return kind == 1 ? "equal" : kind == 2 ? "kin" : side == 0 ? "customer" : "provider";
        }
    }

    final List<Prefix> prefixes = new ArrayList<>();
    final List<Tie> ties = new ArrayList<>();
    final List<Right> rights = new ArrayList<>();
    final List<NaivePolicy> policies = new ArrayList<>();
    final List<String> rules = new ArrayList<>();
    final List<Boolean> grouped = new ArrayList<>();
    final Map<List<Integer>, Integer> begun = new HashMap<>();
    final Map<List<Integer>, Picked> picked = new HashMap<>();
    final Map<Key, Told> heard = new HashMap<>();
    final Map<Key, Told> said = new HashMap<>();
    final List<Event> events = new ArrayList<>();
    int today;
    int clock;
    int done;
    private long made;

    void addDomain() {
        rules.add("12345");
        grouped.add(false);
    }

    void addTie(int a, int b, int kind) {
        Tie tie = new Tie();
        tie.a = a;
        tie.b = b;
        tie.kind = kind;
        ties.add(tie);
    }

    int verdict(int prefix, int number, int day, int known) {
        boolean any = false;
        boolean valid = false;
        for (Right right : rights) {
            boolean known1 = right.known() <= known && (right.struck()[0] < 0 || known < right.struck()[0]);
            if (day < right.from() || day >= right.to() || !known1) {
                continue;
            }
            if (prefixes.get(right.prefix()).holds(prefixes.get(prefix))) {
                any = true;
                valid |= right.domain() == number && prefixes.get(prefix).length() <= right.most();
            }
        }
        return valid ? 1 : any ? 0 : 2;
    }

    private Route judged(Integer policy, Route route, int tie, int side) {
        if (policy == null) {
            return route;
        }
        Tie over = ties.get(tie);
        NaivePolicy.Going going = new NaivePolicy.Going(this, route, over.end(side), over.end(1 - side), over.role(side));
        return policies.get(policy).goThrough(going) == 0 ? null : going.route();
    }

    List<Candidate> candidates(int domain, int prefix) {
        List<Candidate> all = new ArrayList<>();
        for (int t = 0; t < ties.size(); t++) {
            for (int side = 0; side < 2; side++) {
                Told told = heard.get(new Key(t, side, prefix));
                boolean mine = ties.get(t).end(side) == domain && ties.get(t).up;
                if (!mine || told == null || told.route() == null || told.route().way().contains(domain)) {
                    continue;
                }
                Route route = judged(ties.get(t).policies[side * 2], told.route(), t, side);
                if (route != null) {
                    all.add(new Candidate(t, ties.get(t).end(1 - side), route, told.when()));
                }
            }
        }
        return all;
    }

    /** Below 0: x is better. */
    private static int atStep(char step, Candidate x, Candidate y) {
        boolean oneFirst = !x.route().way().isEmpty() && !y.route().way().isEmpty()
            && x.route().way().get(0).equals(y.route().way().get(0));
        switch (step) {
            case '1':
                return y.route().wish() - x.route().wish();
            case '2':
                return x.route().way().size() - y.route().way().size();
            case '3':
                return x.route().origin() - y.route().origin();
            case '4':
                return oneFirst ? x.route().cost() - y.route().cost() : 0;
            case '5':
                return x.when() - y.when();
            default:
                return x.route().cost() - y.route().cost();
        }
    }

    private boolean beats(int domain, Candidate x, Candidate y) {
        for (char step : rules.get(domain).toCharArray()) {
            if (atStep(step, x, y) != 0) {
                return atStep(step, x, y) < 0;
            }
        }
        return x.partner() < y.partner();
    }

    private Candidate last(int domain, List<Candidate> row) {
        Candidate best = null;
        for (Candidate one : row) {
            best = best == null || beats(domain, one, best) ? one : best;
        }
        return best;
    }

    private Candidate pick(int domain, int prefix) {
        List<Candidate> all = candidates(domain, prefix);
        if (!grouped.get(domain)) {
            return last(domain, all);
        }
        List<Candidate> left = new ArrayList<>();
        all.stream().filter(one -> one.route().way().isEmpty()).forEach(left::add);
        all.stream().filter(one -> !one.route().way().isEmpty()).map(one -> one.route().way().get(0)).distinct()
            .sorted(Comparator.comparingLong(Integer::toUnsignedLong)).forEach(first -> left.add(last(domain,
                all.stream().filter(one -> !one.route().way().isEmpty() && one.route().way().get(0).equals(first)).toList())));
        return last(domain, left);
    }

    void look(int domain, int prefix) {
        List<Integer> place = List.of(domain, prefix);
        Picked now = null;
        if (begun.containsKey(place)) {
            now = new Picked(OWN, new Route(prefix, List.of(), 100, begun.get(place), 0, List.of()));
        } else {
            Candidate best = pick(domain, prefix);
            now = best == null ? null : new Picked(best.tie(), best.route());
        }
        if (java.util.Objects.equals(now, picked.get(place))) {
            return;
        }
        picked.put(place, now);
        sayOverAll(domain, prefix);
    }

    private void sayOverAll(int domain, int prefix) {
        for (int t = 0; t < ties.size(); t++) {
            for (int side = 0; side < 2; side++) {
                if (ties.get(t).end(side) == domain && ties.get(t).up) {
                    say(t, side, prefix);
                }
            }
        }
    }

    void say(int tie, int side, int prefix) {
        Tie over = ties.get(tie);
        Key key = new Key(tie, side, prefix);
        Route now = toSay(tie, side, prefix);
        Told last = said.get(key);
        if (java.util.Objects.equals(now, last == null ? null : last.route())) {
            return;
        }
        if (last != null && clock < last.when() + over.gap) {
            if (events.stream().noneMatch(event -> event.waits() && event.key().equals(key))) {
                events.add(new Event(last.when() + over.gap, made++, key, true, null));
            }
            return;
        }
        said.put(key, new Told(now, clock));
        events.removeIf(event -> !event.waits() && event.key().equals(key));
        events.add(new Event(clock + over.delay, made++, key, false, now));
    }

    private Route toSay(int tie, int side, int prefix) {
        Tie over = ties.get(tie);
        Picked mine = picked.get(List.of(over.end(side), prefix));
        if (mine == null || mine.tie() == tie || mine.route().way().size() == 20) {
            return null;
        }
        List<Integer> way = new ArrayList<>(List.of(over.end(side)));
        way.addAll(mine.route().way());
        Route route = mine.route();
        Route out = new Route(prefix, List.copyOf(way), 100, route.origin(), route.cost(), route.marks());
        Route judged = judged(over.policies[side * 2 + 1], out, tie, side);
        return judged == null ? null : judged.withWish(100);
    }

    boolean doNext(int lastMoment) {
        Event next = events.stream().min(Comparator.comparingInt(Event::moment).thenComparingLong(Event::made)).orElse(null);
        if (next == null || next.moment() > lastMoment) {
            return false;
        }
        events.remove(next);
        clock = next.moment();
        done++;
        Key key = next.key();
        if (next.waits()) {
            say(key.tie(), key.side(), key.prefix());
        } else {
            hear(key.tie(), 1 - key.side(), key.prefix(), next.route());
        }
        return true;
    }

    void hear(int tie, int side, int prefix, Route route) {
        heard.put(new Key(tie, side, prefix), new Told(route, clock));
        look(ties.get(tie).end(side), prefix);
    }

    void lookAtAll(int domain) {
        for (int p = 0; p < prefixes.size(); p++) {
            look(domain, p);
        }
    }

    void sayAll(int tie, int side) {
        for (int p = 0; p < prefixes.size() && ties.get(tie).up; p++) {
            say(tie, side, p);
        }
    }

    void tellAllAnew() {
        for (int d = 0; d < rules.size(); d++) {
            lookAtAll(d);
        }
        for (int d = 0; d < rules.size(); d++) {
            for (int t = 0; t < ties.size(); t++) {
                if (ties.get(t).a == d || ties.get(t).b == d) {
                    sayAll(t, ties.get(t).a == d ? 0 : 1);
                }
            }
        }
    }

    void raise(int tie, boolean up) {
        Tie over = ties.get(tie);
        boolean was = over.up;
        over.up = up;
        if (up) {
            sayAll(tie, 0);
            sayAll(tie, 1);
        } else if (was) {
            heard.keySet().removeIf(key -> key.tie() == tie);
            said.keySet().removeIf(key -> key.tie() == tie);
            events.removeIf(event -> event.key().tie() == tie);
            lookAtAll(over.a);
            lookAtAll(over.b);
        }
    }

    int why(int tie, int side, int prefix) {
        Told told = heard.get(new Key(tie, side, prefix));
        int domain = ties.get(tie).end(side);
        if (told == null || told.route() == null) {
            return NONE;
        }
        if (begun.containsKey(List.of(domain, prefix))) {
            return 8;
        }
        if (told.route().way().contains(domain)) {
            return 9;
        }
        List<Candidate> all = candidates(domain, prefix);
        Candidate asked = all.stream().filter(one -> one.tie() == tie).findAny().orElse(null);
        if (asked == null) {
            return 10;
        }
        int bestTie = picked.get(List.of(domain, prefix)).tie();
        Candidate best = all.stream().filter(one -> one.tie() == bestTie).findAny().orElseThrow();
        if (best == asked) {
            return 0;
        }
        for (char step : rules.get(domain).toCharArray()) {
            if (atStep(step, asked, best) != 0) {
                return step - '0';
            }
        }
        return 7;
    }

    int three(int domain, int prefix, int k) {
        if (begun.containsKey(List.of(domain, prefix))) {
            return NONE;
        }
        List<Candidate> all = candidates(domain, prefix);
        for (Candidate x : all) {
            for (Candidate y : all) {
                for (Candidate z : all) {
                    boolean three = x != y && y != z && z != x;
                    if (three && beats(domain, x, y) && beats(domain, y, z) && beats(domain, z, x)) {
                        return List.of(x, y, z).get(k).tie();
                    }
                }
            }
        }
        return NONE;
    }

    /** The tie, OWN, or NONE. */
    int tieFor(int domain, int address) {
        int best = NONE;
        int length = -1;
        for (int p = 0; p < prefixes.size(); p++) {
            Picked mine = picked.get(List.of(domain, p));
            if (mine != null && prefixes.get(p).holds(address) && prefixes.get(p).length() > length) {
                length = prefixes.get(p).length();
                best = mine.tie();
            }
        }
        return best;
    }

    int partnerFor(int domain, int address) {
        int tie = tieFor(domain, address);
        return tie < 0 ? tie : ties.get(tie).a + ties.get(tie).b - domain;
    }

    /** The domains a letter comes to, and behind them what becomes of it. */
    List<Integer> letter(int domain, int address) {
        List<Integer> met = new ArrayList<>(List.of(domain));
        while (true) {
            int next = partnerFor(met.get(met.size() - 1), address);
            if (next < 0) {
                met.add(next == OWN ? 0 : 1);
                return met;
            }
            boolean again = met.contains(next);
            met.add(next);
            if (again) {
                met.add(2);
                return met;
            }
        }
    }

    private boolean isOne(int address, int length) {
        return prefixes.stream().noneMatch(p -> p.length() > length && new Prefix(address, length).holds(p));
    }

    long differ(int a, int b, int address, int length) {
        if (isOne(address, length)) {
            return partnerFor(a, address) == partnerFor(b, address) ? 0 : 1L << 32 - length;
        }
        return differ(a, b, address, length + 1) + differ(a, b, address | 1 << 31 - length, length + 1);
    }

    int least(int domain) {
        Set<Integer> aims = new HashSet<>(List.of(OWN, NONE));
        for (int t = 0; t < ties.size(); t++) {
            aims.add(t);
        }
        return least(domain, 0, 0, NONE, aims, new HashMap<>());
    }

    /** Just as a table is told: no entry here, or one of any aim. */
    private int least(int domain, int address, int length, int above, Set<Integer> aims, Map<List<Integer>, Integer> known) {
        if (isOne(address, length)) {
            return tieFor(domain, address) == above ? 0 : 1;
        }
        List<Integer> key = List.of(address, length, above);
        if (known.containsKey(key)) {
            return known.get(key);
        }
        int best = Integer.MAX_VALUE;
        for (int aim : aims) {
            int sum = least(domain, address, length + 1, aim, aims, known)
                + least(domain, address | 1 << 31 - length, length + 1, aim, aims, known);
            best = Math.min(best, sum + (aim == above ? 0 : 1));
        }
        known.put(key, best);
        return best;
    }
}
