import java.lang.reflect.Method;
import java.lang.reflect.Modifier;
import java.util.Arrays;
import java.util.TreeSet;

/** Promise 1, promise 49 and the face: what a new object has, the constants, no other public thing. */
public final class FaceTest {
    private static final String[] FACE = {
        "announce", "clear", "cone", "count", "cut", "demand", "differ", "domain", "fault", "feed", "go", "hand",
        "hear", "heard", "judge", "least", "led", "letWay", "letter", "load", "message", "octet", "pace", "part",
        "picked", "policy", "prefix", "raise", "rest", "rests", "right", "ring", "route", "rule", "strike", "three",
        "tie", "today", "tries", "units", "until", "use", "verdict", "walk", "why", "wish", "withdraw", "write",
    };

    public static void main(String[] args) {
        Check check = new Check("FaceTest");
        constants(check);
        members(check);
        newObject(check);
        counts(check);
        check.end();
    }

    private static void constants(Check check) {
        check.due("BAD", DomainHouse.BAD, -1);
        check.due("NO", DomainHouse.NO, -2);
        check.due("FULL", DomainHouse.FULL, -3);
        check.due("NONE", DomainHouse.NONE, -99999999);
    }

    private static void members(Check check) {
        TreeSet<String> names = new TreeSet<>();
        int open = 0;
        for (Method method : DomainHouse.class.getDeclaredMethods()) {
            if (Modifier.isPublic(method.getModifiers())) {
                names.add(method.getName());
                open++;
            } else if (!Modifier.isPrivate(method.getModifiers())) {
                check.due("hidden " + method.getName(), 0, 1);
            }
        }
        check.due("methods of the face", names.equals(new TreeSet<>(Arrays.asList(FACE))) ? 1 : 0, 1);
        check.due("none of them twice", open, FACE.length);
        check.due("public fields", DomainHouse.class.getFields().length, 4);
        check.due("final", Modifier.isFinal(DomainHouse.class.getModifiers()) ? 1 : 0, 1);
    }

    private static void newObject(Check check) {
        DomainHouse house = new DomainHouse();
        for (int what = 0; what <= 11; what++) {
            check.due("count " + what, house.count(what), 0);
        }
        check.due("count -1", house.count(-1), Check.BAD);
        check.due("count 12", house.count(12), Check.BAD);
        check.due("fault", house.fault(), 0);
        check.due("hand", house.hand(0), Check.NONE);
        check.due("ring", house.ring(0), Check.NONE);
        check.due("part 0", house.part(0), Check.NONE);
        check.due("part 1", house.part(1), Check.NONE);
        check.due("octet", house.octet(0), Check.NONE);
        check.due("led", house.led(0), Check.NONE);
        check.due("units", house.units(0), 0);
        check.due("go", house.go(1), 0);
        check.due("letWay", house.letWay(), 0);
        check.due("rests", house.rests(), 1);
        check.due("tries", house.tries(0), 1);
    }

    private static void counts(Check check) {
        DomainHouse house = new DomainHouse();
        house.prefix(0, 0);
        Check.domains(house, 3);
        house.tie(0, 1, 0);
        house.tie(1, 2, 0);
        Check.policy(house, "let;");
        Check.policy(house, "bar;");
        Check.policy(house, "");
        Check.policy(house, "");
        for (int i = 0; i < 4; i++) {
            house.right(0, 0, 0, 0, 1, 0);
            house.demand(0, 0, 1);
        }
        house.demand(0, 0, 1);
        house.feed(0, 0, 0, 0, 0);
        Check.walk(house, 1, 2, 3, 4, 5, 6, 7);
        house.today(77);
        house.announce(0, 0, 0);
        house.go(1);
        int[] want = {1, 3, 2, 4, 4, 5, 20, 1, 1, 1, 7, 77};
        for (int what = 0; what < want.length; what++) {
            check.due("count " + what, house.count(what), want[what]);
        }
    }
}
