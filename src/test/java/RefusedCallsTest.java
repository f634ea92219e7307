import java.util.ArrayList;
import java.util.List;
import java.util.function.Supplier;
import java.util.function.ToLongFunction;

/** Calls that are refused, in several states of the house: what they answer, and that they leave all as it was. */
public final class RefusedCallsTest {
    private static final int LEAST = Integer.MIN_VALUE;
    private static final int MOST = Integer.MAX_VALUE;
    private static final int TEN = Scene.TEN;

    /** A call and the answer that is due, or none if only what it leaves is looked at. */
    private record Call(String name, ToLongFunction<DomainHouse> call, Long want) {
    }

    private final Check check;
    private final String scene;
    private final Supplier<DomainHouse> maker;
    private final List<Call> calls = new ArrayList<>();

    private RefusedCallsTest(Check check, String scene, Supplier<DomainHouse> maker) {
        this.check = check;
        this.scene = scene;
        this.maker = maker;
    }

    public static void main(String[] args) {
        Check check = new Check("RefusedCallsTest");
        constants(check);
        check.term(0, "All numbers are whole. BAD (-1): a number is not as told, or there is no such thing; NO (-2): not now; FULL (-3): no room;");
        check.term(0, "of several the one that stands first here; they change nothing (but the TAPE, as told).");
        ofAnyHouse(check, "new", DomainHouse::new).ask();
        ofAnyHouse(check, "chain", () -> Scene.chain(3)).ask();
        ofABusyHouse(ofAnyHouse(check, "busy", Scene::busy)).ask();
        ofAFullHouse(ofAnyHouse(check, "full", Scene::full)).ask();
        new RefusedCallsTest(check, "no room to wish", () -> wishing(1, 0)).with("wish", Check.FULL, DomainHouse::wish).ask();
        new RefusedCallsTest(check, "wished already", () -> wishing(1, 2, 0)).with("wish", Check.NO, DomainHouse::wish).ask();
        new RefusedCallsTest(check, "no wish", () -> wishing(1, 2, 1, 0)).with("wish", Check.BAD, DomainHouse::wish).ask();
        new RefusedCallsTest(check, "no route", RefusedCallsTest::withoutRoute)
            .with("judge", Check.NO, house -> house.judge(0, 0, 1))
            .with("hear", Check.NO, house -> house.hear(0, 0)).ask();
        new RefusedCallsTest(check, "closed", RefusedCallsTest::closed).with("hear", Check.NO, house -> house.hear(0, 0)).ask();
        policyThatIsFull(check);
        numbered(check);
        check.end();
    }

    private static void constants(Check check) {
        check.term(0, "BAD (-1):");
        check.due("BAD", DomainHouse.BAD, -1);
        check.term(0, "NO (-2):");
        check.due("NO", DomainHouse.NO, -2);
        check.term(0, "FULL (-3):");
        check.due("FULL", DomainHouse.FULL, -3);
        check.term(0, "NONE (-99999999).");
        check.due("NONE", DomainHouse.NONE, -99999999);
    }

    private RefusedCallsTest with(String name, long want, ToLongFunction<DomainHouse> call) {
        calls.add(new Call(name, call, want));
        return this;
    }

    private RefusedCallsTest bad(String name, ToLongFunction<DomainHouse> call) {
        return with(name, Check.BAD, call);
    }

    /** One that only asks: it may answer what it will. */
    private void asks(String name, ToLongFunction<DomainHouse> call) {
        calls.add(new Call(name, call, null));
    }

    private void ask() {
        List<Long> before = Dump.of(maker);
        for (Call one : calls) {
            if (one.want() != null) {
                check.due(scene + ": " + one.name(), one.call().applyAsLong(maker.get()), one.want());
            }
            List<Long> behind = Dump.of(() -> {
                DomainHouse house = maker.get();
                one.call().applyAsLong(house);
                return house;
            });
            check.due(scene + ": what " + one.name() + " leaves is as it was", behind.equals(before) ? 1 : 0, 1);
        }
    }

    private static DomainHouse wishing(int... way) {
        DomainHouse house = Scene.full();
        Check.walk(house, way);
        return house;
    }

    private static DomainHouse withoutRoute() {
        DomainHouse house = Scene.chain(3);
        house.announce(0, 0, 0);
        Check.policy(house, "wish 7;");
        return house;
    }

    private static DomainHouse closed() {
        DomainHouse house = withoutRoute();
        Check.message(house, new Wire().withdraw(TEN, 8).rawAnnounced(33).bytes());
        return house;
    }

    /** What is refused whatever is there: each number one step outside of what there is, or of what is told. */
    private static RefusedCallsTest ofAnyHouse(Check check, String scene, Supplier<DomainHouse> maker) {
        RefusedCallsTest test = new RefusedCallsTest(check, scene, maker);
        DomainHouse house = maker.get();
        int p = house.count(0);
        int d = house.count(1);
        int t = house.count(2);
        int r = house.count(3);
        int policies = house.count(4);
        int bytes = house.count(6);
        int clock = house.count(7);
        test.bad("cut -1", h -> h.cut(-1));
        test.bad("cut least", h -> h.cut(LEAST));
        test.bad("cut more", h -> h.cut(bytes + 1));
        test.badPrefixes(p, d, t);
        test.badDays(p, d, r);
        test.badPolicies(p, d, t, policies);
        test.badRoutes(p, d, t, clock);
        test.badLetters(p, d, t);
        test.onlyAsked(p, d, t);
        return test;
    }

    private void badPrefixes(int p, int d, int t) {
        bad("prefix of length -1", h -> h.prefix(0, -1));
        bad("prefix of length 33", h -> h.prefix(0, 33));
        bad("prefix with bits behind", h -> h.prefix(1, 31));
        bad("tie of -1", h -> h.tie(-1, 0, 0));
        bad("tie of one too many", h -> h.tie(0, d, 0));
        bad("tie of one too many, first", h -> h.tie(d, 0, 0));
        bad("tie with itself", h -> h.tie(0, 0, 0));
        bad("tie of kind 3", h -> h.tie(0, 1, 3));
        bad("tie of kind -1", h -> h.tie(0, 1, -1));
        bad("pace of -1", h -> h.pace(-1, 1, 0));
        bad("pace of one too many", h -> h.pace(t, 1, 0));
        bad("delay 0", h -> h.pace(0, 0, 0));
        bad("delay 1001", h -> h.pace(0, 1001, 0));
        bad("gap -1", h -> h.pace(0, 1, -1));
        bad("gap 1001", h -> h.pace(0, 1, 1001));
        bad("raise -1", h -> h.raise(-1, false));
        bad("raise one too many", h -> h.raise(t, true));
        bad("lower one too many", h -> h.raise(t, false));
        bad("cone of -1", h -> h.cone(-1, -1));
        bad("cone of one too many", h -> h.cone(d, -1));
        bad("cone and -2", h -> h.cone(0, -2));
        bad("cone and one too many", h -> h.cone(0, d));
        bad("walk -2", h -> h.walk(-2));
        bad("walk 10", h -> h.walk(10));
        bad("route of one too many", h -> h.route(p, 0, 0, 0));
    }

    private void badDays(int p, int d, int r) {
        bad("today -1", h -> h.today(-1));
        bad("today least", h -> h.today(LEAST));
        bad("right of one too many", h -> h.right(p, 32, 0, 0, 1, 0));
        bad("right of -1", h -> h.right(-1, 32, 0, 0, 1, 0));
        bad("right to 33", h -> h.right(0, 33, 0, 0, 1, 0));
        bad("right to -1", h -> h.right(0, -1, 0, 0, 1, 0));
        bad("right of no domain", h -> h.right(0, 32, d, 0, 1, 0));
        bad("right from -1", h -> h.right(0, 32, 0, -1, 1, 0));
        bad("right of no day", h -> h.right(0, 32, 0, 1, 1, 0));
        bad("right known at -1", h -> h.right(0, 32, 0, 0, 1, -1));
        bad("strike -1", h -> h.strike(-1, MOST));
        bad("strike one too many", h -> h.strike(r, MOST));
        bad("strike at -1", h -> h.strike(0, -1));
        bad("verdict on one too many", h -> h.verdict(p, 0, 0, 0));
        bad("verdict on -1", h -> h.verdict(-1, 0, 0, 0));
        bad("verdict at -1", h -> h.verdict(0, 0, -1, 0));
        bad("verdict by -1", h -> h.verdict(0, 0, 0, -1));
    }

    private void badPolicies(int p, int d, int t, int policies) {
        bad("route of -1", h -> h.route(-1, 0, 0, 0));
        bad("wish -1", h -> h.route(0, -1, 0, 0));
        bad("wish 1001", h -> h.route(0, 1001, 0, 0));
        bad("origin -1", h -> h.route(0, 0, -1, 0));
        bad("origin 3", h -> h.route(0, 0, 3, 0));
        bad("cost -1", h -> h.route(0, 0, 0, -1));
        bad("cost 1000001", h -> h.route(0, 0, 0, 1000001));
        bad("judge by one too many", h -> h.judge(policies, 0, 1));
        bad("judge by -1", h -> h.judge(-1, 0, 1));
        bad("judge by itself", h -> h.judge(0, 0, 0));
        bad("judge of no domain", h -> h.judge(0, d, 0));
        bad("judge of no partner", h -> h.judge(0, 0, d));
        bad("use of no tie", h -> h.use(t, 0, 0, Check.NONE));
        bad("use of tie -1", h -> h.use(-1, 0, 0, Check.NONE));
        bad("use of side 2", h -> h.use(0, 2, 0, Check.NONE));
        bad("use of side -1", h -> h.use(0, -1, 0, Check.NONE));
        bad("use of way 2", h -> h.use(0, 0, 2, Check.NONE));
        bad("use of way -1", h -> h.use(0, 0, -1, Check.NONE));
        bad("use of no policy", h -> h.use(0, 0, 0, policies));
        bad("use of policy -1", h -> h.use(0, 0, 1, -1));
        bad("rule of no domain", h -> h.rule(d, 1, false));
        bad("rule of -1", h -> h.rule(-1, 1, false));
        bad("rule 7", h -> h.rule(0, 7, true));
        bad("rule 10", h -> h.rule(0, 10, true));
        bad("rule 11", h -> h.rule(0, 11, true));
        bad("rule -1", h -> h.rule(0, -1, true));
    }

    private void badRoutes(int p, int d, int t, int clock) {
        bad("announce by none", h -> h.announce(d, 0, 0));
        bad("announce none", h -> h.announce(0, p, 0));
        bad("announce with 3", h -> h.announce(0, 0, 3));
        bad("announce with -1", h -> h.announce(0, 0, -1));
        bad("withdraw by none", h -> h.withdraw(d, 0));
        bad("withdraw none", h -> h.withdraw(0, p));
        bad("go 0", h -> h.go(0));
        bad("go -1", h -> h.go(-1));
        bad("go 501", h -> h.go(501));
        bad("until the moment ahead", h -> h.until(clock - 1));
        bad("until 1000000001", h -> h.until(1000000001));
        bad("picked by none", h -> h.picked(d, 0));
        bad("picked of none", h -> h.picked(0, p));
        bad("heard over none", h -> h.heard(t, 0, 0, 0));
        bad("heard by side 2", h -> h.heard(0, 2, 0, 0));
        bad("heard of none", h -> h.heard(0, 0, p, 1));
        bad("heard what 2", h -> h.heard(0, 0, 0, 2));
        bad("why over none", h -> h.why(t, 0, 0));
        bad("why by side 2", h -> h.why(0, 2, 0));
        bad("why of none", h -> h.why(0, 0, p));
        bad("three of none", h -> h.three(d, 0, 0));
        bad("three of no prefix", h -> h.three(0, p, 0));
        bad("hear over none", h -> h.hear(t, 0));
        bad("hear by side 2", h -> h.hear(0, 2));
        bad("write over none", h -> h.write(t, 0, 0));
        bad("write by side 2", h -> h.write(0, 2, 0));
        bad("write none", h -> h.write(0, 0, p));
    }

    private void badLetters(int p, int d, int t) {
        bad("letter at none", h -> h.letter(d, TEN));
        bad("letter at -1", h -> h.letter(-1, TEN));
        bad("demand of none", h -> h.demand(d, TEN, 1));
        bad("demand of 0", h -> h.demand(0, TEN, 0));
        bad("demand of 1000001", h -> h.demand(0, TEN, 1000001));
        bad("load of none", h -> h.load(t, 0));
        bad("load of side 2", h -> h.load(0, 2));
        bad("units 3", h -> h.units(3));
        bad("units -1", h -> h.units(-1));
        bad("least of none", h -> h.least(d));
        bad("differ of none", h -> h.differ(0, d));
        bad("differ of -1", h -> h.differ(-1, 0));
        bad("rest -1", h -> h.rest(-1, 1));
        bad("rest 47000", h -> h.rest(47000, 1));
        bad("rest of place 0", h -> h.rest(0, 0));
        bad("rest of place 7", h -> h.rest(0, 7));
        bad("tries 4", h -> h.tries(4));
        bad("tries -1", h -> h.tries(-1));
        bad("count 12", h -> h.count(12));
        bad("count -1", h -> h.count(-1));
        with("hand 6", Check.NONE, h -> h.hand(6));
        with("hand 30", Check.NONE, h -> h.hand(30));
        with("ring 10", Check.NONE, h -> h.ring(10));
        with("ring -1", Check.NONE, h -> h.ring(-1));
        with("part 8", Check.NONE, h -> h.part(8));
        with("octet 256", Check.NONE, h -> h.octet(256));
        with("led 11", Check.NONE, h -> h.led(11));
        with("three 3", p > 0 && d > 0 ? Check.NONE : Check.BAD, h -> h.three(0, 0, 3));
    }

    private void onlyAsked(int p, int d, int t) {
        asks("cone", h -> h.cone(0, -1));
        asks("ring", h -> h.ring(0));
        asks("letWay", h -> h.letWay());
        asks("verdict", h -> h.verdict(0, 0, 5, 5));
        asks("fault", h -> h.fault());
        asks("hand", h -> h.hand(1));
        asks("why", h -> h.why(0, 1, 0));
        asks("why, the last", h -> h.why(t - 1, 0, p - 1));
        asks("three", h -> h.three(0, 0, 0));
        asks("part", h -> h.part(1));
        asks("octet", h -> h.octet(0));
        asks("led", h -> h.led(0));
        asks("load", h -> h.load(0, 0));
        asks("units", h -> h.units(0));
        asks("least", h -> h.least(d - 1));
        asks("differ", h -> h.differ(0, d - 1));
        asks("rests", h -> h.rests());
        asks("rest", h -> h.rest(0, 1));
        asks("tries", h -> h.tries(0));
        asks("count", h -> h.count(0));
    }

    private static RefusedCallsTest ofABusyHouse(RefusedCallsTest test) {
        test.with("prefix that is there", Check.NO, h -> h.prefix(TEN, 8));
        test.with("tie that is there", Check.NO, h -> h.tie(0, 1, 0));
        test.with("tie that is there, turned", Check.NO, h -> h.tie(1, 0, 2));
        test.with("struck already", Check.NO, h -> h.strike(2, 60));
        test.with("struck already, later", Check.NO, h -> h.strike(2, MOST));
        test.with("struck already, BAD", Check.BAD, h -> h.strike(2, 4));
        test.with("begun already", Check.NO, h -> h.announce(0, 0, 1));
        test.with("not begun", Check.NO, h -> h.withdraw(0, 1));
        test.with("heard over one that is down", Check.NO, h -> h.hear(3, 0));
        test.with("down already", 0, h -> h.raise(3, false));
        test.with("no wish", Check.BAD, h -> h.wish());
        test.with("nothing is picked", Check.NONE, h -> h.picked(3, 0));
        test.with("nothing is heard", Check.NONE, h -> h.heard(3, 0, 0, 0));
        test.with("nothing is said", Check.NONE, h -> h.heard(3, 1, 2, 1));
        test.with("nothing to be told why", Check.NONE, h -> h.why(3, 0, 0));
        test.with("an event that is not due", 0, h -> h.until(h.count(7)));
        return test;
    }

    private static RefusedCallsTest ofAFullHouse(RefusedCallsTest test) {
        test.with("feed", Check.FULL, h -> h.feed(-1, -1, -1, -1, -1));
        test.with("prefix", Check.FULL, h -> h.prefix(99 << 24, 8));
        test.with("prefix that is there", Check.NO, h -> h.prefix(9 << 24, 8));
        test.with("domain", Check.FULL, h -> h.domain());
        test.with("tie", Check.FULL, h -> h.tie(0, 5, 0));
        test.with("tie that is there", Check.NO, h -> h.tie(0, 1, 0));
        test.with("walk", Check.FULL, h -> h.walk(0));
        test.with("right", Check.FULL, h -> h.right(0, 8, 0, 0, 1, 0));
        test.with("struck already", Check.NO, h -> h.strike(0, 7));
        test.with("begun already", Check.NO, h -> h.announce(3, 7, 1));
        test.with("not begun", Check.NO, h -> h.withdraw(3, 6));
        test.with("no message", Check.NO, h -> h.hear(0, 0));
        test.with("demand", Check.FULL, h -> h.demand(0, 0, 1));
        test.with("no wish", Check.BAD, h -> h.wish());
        return test;
    }

    /** Of a policy that is FULL only the tape (and what fault() tells) is other than before. */
    private static void policyThatIsFull(Check check) {
        check.term(0, "they change nothing (but the TAPE, as told).");
        Supplier<DomainHouse> cut = () -> {
            DomainHouse house = Scene.full();
            house.cut(0);
            return house;
        };
        String[] texts = {"let;", "", "let", "foo", "more 0;"};
        for (String text : texts) {
            List<Long> behind = Dump.of(() -> {
                DomainHouse house = Scene.full();
                Check.tape(house, text);
                check.due("policy " + text, house.policy() == Check.FULL == (house.fault() == 0) ? 1 : 0, 1);
                house.policy();
                return house;
            });
            check.due("as with an empty tape, behind " + text, behind.equals(Dump.of(cut)) ? 1 : 0, 1);
        }
    }

    private static void numbered(Check check) {
        check.term(0, "What there is is numbered from 0 on, as it comes.");
        DomainHouse house = new DomainHouse();
        for (int i = 0; i < 3; i++) {
            check.due("prefix", house.prefix(i << 24, 8), i);
            house.prefix(i << 24, 8);
            check.due("domain", house.domain(), i);
        }
        for (int i = 0; i < 3; i++) {
            check.due("tie", house.tie(i, (i + 1) % 3, 0), i);
            house.tie(i, i, 0);
            check.due("right", house.right(i, 8, 0, 0, 1, 0), i);
            house.right(i, 7, 0, 0, 1, 0);
            Check.policy(house, "foo");
            check.due("policy", Check.policy(house, "let;"), i);
            house.demand(0, 0, 0);
            check.due("demand", house.demand(0, 0, 1), i);
        }
    }
}
