import java.util.ArrayDeque;
import java.util.ArrayList;
import java.util.HashMap;
import java.util.HashSet;
import java.util.List;
import java.util.Map;
import java.util.Random;
import java.util.Set;

/** Random small nets, their states kept as lists of ways, against rests, rest and tries. */
public final class RandomNetsTest {
    private static final int RUNS = 3000;

    private final Random random;
    private final DomainHouse house = new DomainHouse();
    private final List<List<List<Integer>>> wished = new ArrayList<>();

    private RandomNetsTest(int seed) {
        random = new Random(seed);
        for (int place = 0; place <= 6; place++) {
            wished.add(new ArrayList<>());
        }
    }

    public static void main(String[] args) {
        Check check = new Check("RandomNetsTest");
        for (int seed = 0; seed < RUNS; seed++) {
            new RandomNetsTest(seed).play(check, "run " + seed + ": ");
        }
        check.end();
    }

    private void play(Check check, String run) {
        int places = 1 + random.nextInt(5);
        int most = 1 + random.nextInt(places > 3 ? 3 : 5);
        for (int i = 0; i < places * most * 2; i++) {
            wish(1 + random.nextInt(places), places, most);
            if (i % 7 == 6) {
                compare(check, run);
            }
        }
        compare(check, run);
    }

    /** Half of the wishes go on over a way that the next place wishes for already. */
    private void wish(int place, int places, int most) {
        List<Integer> way = new ArrayList<>(List.of(place));
        int next = random.nextInt(places + 1);
        if (next > 0 && !wished.get(next).isEmpty() && random.nextBoolean()) {
            way.addAll(wished.get(next).get(random.nextInt(wished.get(next).size())));
        } else {
            for (int i = 0; i < 3 && next > 0; i++) {
                way.add(next);
                next = random.nextInt(places + 1);
            }
            way.add(0);
        }
        boolean twice = new HashSet<>(way).size() < way.size();
        boolean there = wished.get(place).contains(way);
        if (!twice && !there && wished.get(place).size() >= most) {
            return;
        }
        Check.walk(house, way.stream().mapToInt(Integer::intValue).toArray());
        house.wish();
        if (!twice && !there) {
            wished.get(place).add(way);
        }
    }

    /** What each place has in a state: a way, or an empty row for none. */
    private List<Integer> acted(List<List<Integer>> state, int place) {
        for (List<Integer> way : wished.get(place)) {
            List<Integer> behind = way.subList(1, way.size());
            if (state.get(behind.get(0)).equals(behind)) {
                return way;
            }
        }
        return List.of();
    }

    private static List<List<Integer>> changed(List<List<Integer>> state, int place, List<Integer> way) {
        List<List<Integer>> other = new ArrayList<>(state);
        other.set(place, way);
        return other;
    }

    private List<List<List<Integer>>> neighbours(List<List<Integer>> state) {
        List<List<List<Integer>>> all = new ArrayList<>();
        for (int place = 1; place <= 6; place++) {
            List<Integer> way = acted(state, place);
            if (!way.equals(state.get(place))) {
                all.add(changed(state, place, way));
            }
        }
        return all;
    }

    private static List<List<Integer>> none() {
        List<List<Integer>> state = new ArrayList<>(List.of(List.of(0)));
        for (int place = 1; place <= 6; place++) {
            state.add(List.of());
        }
        return state;
    }

    private void collectRests(List<List<Integer>> state, int place, List<List<List<Integer>>> rests) {
        if (place > 6) {
            if (neighbours(state).isEmpty()) {
                rests.add(state);
            }
            return;
        }
        for (List<Integer> way : wished.get(place)) {
            collectRests(changed(state, place, way), place + 1, rests);
        }
        collectRests(changed(state, place, List.of()), place + 1, rests);
    }

    private void compare(Check check, String run) {
        List<List<List<Integer>>> rests = new ArrayList<>();
        collectRests(none(), 1, rests);
        check.due(run + "rests", house.rests(), rests.size());
        for (int i = 0; i < rests.size(); i++) {
            for (int place = 1; place <= 6; place++) {
                int way = wished.get(place).indexOf(rests.get(i).get(place));
                check.due(run + "rest", house.rest(i, place), way < 0 ? Check.OWN : way);
            }
        }
        compareTries(check, run);
    }

    private void compareTries(Check check, String run) {
        Map<List<List<Integer>>, Integer> levels = new HashMap<>();
        ArrayDeque<List<List<Integer>>> open = new ArrayDeque<>();
        levels.put(none(), 0);
        open.add(none());
        while (!open.isEmpty()) {
            List<List<Integer>> state = open.remove();
            for (List<List<Integer>> next : neighbours(state)) {
                if (levels.putIfAbsent(next, levels.get(state) + 1) == null) {
                    open.add(next);
                }
            }
        }
        Set<List<List<Integer>>> leading = new HashSet<>();
        int least = Check.NONE;
        for (List<List<Integer>> state : levels.keySet()) {
            if (neighbours(state).isEmpty()) {
                leading.add(state);
                least = least == Check.NONE ? levels.get(state) : Math.min(least, levels.get(state));
            }
        }
        int rests = leading.size();
        boolean grows = true;
        while (grows) {
            grows = false;
            for (List<List<Integer>> state : levels.keySet()) {
                if (!leading.contains(state) && neighbours(state).stream().anyMatch(leading::contains)) {
                    leading.add(state);
                    grows = true;
                }
            }
        }
        int[] want = {levels.size(), rests, levels.size() - leading.size(), least};
        for (int what = 0; what < 4; what++) {
            check.due(run + "tries " + what, house.tries(what), want[what]);
        }
    }
}
