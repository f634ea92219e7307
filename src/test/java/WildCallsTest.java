import java.lang.reflect.InvocationTargetException;
import java.lang.reflect.Method;
import java.util.ArrayList;
import java.util.Comparator;
import java.util.List;
import java.util.Random;

/**
 * Wild calls in any state: none throws, and a call that is refused (BAD, NO, FULL) changes nothing but the tape.
 * A twin gets only the calls that were not refused, and must answer alike.
 */
public final class WildCallsTest {
    private static final int RUNS = 400;
    private static final int CALLS = 512;
    private static final String[] TEXTS = {
        "let;", "bar;", "if from 1 then wish 200;", "more 9,more 9;", "if way(any* 2 any*) then add 7;", "call 0,cost 3;",
        "if right bad then bar;", "foo;", "if tie kin", "add 99999;", "if way(((((((1))))))) then let;", "",
    };

    private final Check check;
    private final Random random;
    private final List<Method> methods;
    private final DomainHouse house = new DomainHouse();
    private final DomainHouse twin = new DomainHouse();

    private WildCallsTest(Check check, int seed, List<Method> methods) {
        this.check = check;
        random = new Random(seed);
        this.methods = methods;
    }

    public static void main(String[] args) {
        Check check = new Check("WildCallsTest");
        List<Method> methods = new ArrayList<>();
        for (Method method : DomainHouse.class.getDeclaredMethods()) {
            if (java.lang.reflect.Modifier.isPublic(method.getModifiers())) {
                methods.add(method);
            }
        }
        methods.sort(Comparator.comparing(Method::getName));
        for (int seed = 0; seed < RUNS; seed++) {
            new WildCallsTest(check, seed, methods).play(seed % 4 == 0);
        }
        check.end();
    }

    private void play(boolean fromNothing) {
        if (!fromNothing) {
            furnish(house, random.nextInt(3) * 4 + 2);
            random.nextInt();
            furnish(twin, house.count(1));
        }
        for (int i = 0; i < CALLS; i++) {
            int kind = random.nextInt(10);
            if (kind == 0) {
                String text = TEXTS[random.nextInt(TEXTS.length)];
                Check.tape(house, text);
                Check.tape(twin, text);
                both(named("policy"));
            } else if (kind == 1) {
                int[] bytes = message();
                Check.tape(house, bytes);
                Check.tape(twin, bytes);
                both(named("message"));
            } else {
                both(methods.get(random.nextInt(methods.size())));
            }
        }
        sweep();
    }

    private static void furnish(DomainHouse house, int domains) {
        Check.domains(house, domains);
        for (int i = 0; i < domains; i++) {
            house.prefix(i << 28, 4 + i);
            house.tie(i, (i + 1) % domains, i % 3);
            house.tie(i, (i + 2) % domains, i % 2);
            house.announce(i, i / 2, i % 3);
        }
    }

    private int[] message() {
        Wire wire = new Wire().origin(random.nextInt(4)).way(random.nextInt(12), random.nextInt(12)).marks(random.nextInt(9));
        wire.announce(random.nextInt(4) << 28, 4 + random.nextInt(4));
        wire.withdraw(random.nextInt(4) << 28, 4 + random.nextInt(4));
        int[] bytes = wire.bytes();
        if (random.nextInt(4) == 0) {
            bytes[random.nextInt(bytes.length)] = random.nextInt(256);
        }
        return bytes;
    }

    private Method named(String name) {
        return methods.stream().filter(method -> method.getName().equals(name)).findAny().orElseThrow();
    }

    private void both(Method method) {
        Object[] arguments = new Object[method.getParameterCount()];
        for (int i = 0; i < arguments.length; i++) {
            arguments[i] = method.getParameterTypes()[i] == boolean.class ? (Object) random.nextBoolean() : (Object) number();
        }
        String call = method.getName() + java.util.Arrays.toString(arguments);
        long answer = call(house, method, arguments);
        boolean empties = method.getName().equals("policy") || method.getName().equals("message");
        boolean refused = answer == Check.BAD || answer == Check.NO || answer == Check.FULL;
        if (!refused || empties) {
            check.due(call + " of the twin", call(twin, method, arguments), answer);
        }
    }

    private int number() {
        switch (random.nextInt(12)) {
            case 0:
                return random.nextInt();
            case 1:
                return List.of(Integer.MIN_VALUE, Integer.MAX_VALUE, Check.NONE, -1, -2, 1000, 500).get(random.nextInt(7));
            case 2:
                return random.nextInt(1000);
            case 3:
                return random.nextInt(4) << 28;
            default:
                return random.nextInt(random.nextBoolean() ? 3 : 10);
        }
    }

    private long call(DomainHouse one, Method method, Object[] arguments) {
        try {
            return ((Number) method.invoke(one, arguments)).longValue();
        } catch (InvocationTargetException | IllegalAccessException thrown) {
            check.due(method.getName() + java.util.Arrays.toString(arguments) + " threw " + thrown.getCause(), 1, 0);
            return 0;
        }
    }

    /** All that can be asked, of both. */
    private void sweep() {
        for (int i = 0; i < 128; i++) {
            check.due("count", house.count(i), twin.count(i));
            check.due("hand", house.hand(i), twin.hand(i));
            check.due("octet", house.octet(i), twin.octet(i));
            check.due("led", house.led(i), twin.led(i));
            check.due("ring", house.ring(i), twin.ring(i));
            check.due("part", house.part(i * 7), twin.part(i * 7));
            check.due("rest", house.rest(i / 7, i % 7), twin.rest(i / 7, i % 7));
        }
        check.due("fault", house.fault(), twin.fault());
        check.due("letWay", house.letWay(), twin.letWay());
        for (int x = 0; x < 20; x++) {
            for (int p = 0; p < 10; p++) {
                check.due("picked", house.picked(x, p), twin.picked(x, p));
                for (int side = 0; side < 2; side++) {
                    check.due("heard", house.heard(x, side, p, 0), twin.heard(x, side, p, 0));
                    check.due("said", house.heard(x, side, p, 1), twin.heard(x, side, p, 1));
                    check.due("way", house.hand(10), twin.hand(10));
                    check.due("why", house.why(x, side, p), twin.why(x, side, p));
                    check.due("load", house.load(x, side), twin.load(x, side));
                }
            }
        }
        for (int what = 0; what < 4; what++) {
            check.due("tries", house.tries(what), twin.tries(what));
            check.due("units", house.units(what), twin.units(what));
        }
        check.due("go", house.go(500), twin.go(500));
        check.due("clock", house.count(7), twin.count(7));
    }
}
