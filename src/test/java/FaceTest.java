import java.io.IOException;
import java.lang.reflect.Constructor;
import java.lang.reflect.Field;
import java.lang.reflect.Method;
import java.lang.reflect.Modifier;
import java.nio.file.Files;
import java.nio.file.Path;
import java.util.TreeSet;
import java.util.regex.Matcher;
import java.util.regex.Pattern;

/** Promise 1, promise 49 and the face: what a new object has, the constants, no other public thing. */
public final class FaceTest {
    private static final Pattern METHOD = Pattern.compile("public (int|long) (\\w+)\\(([^)]*)\\);");
    private static final Pattern HEADING = Pattern.compile("Ahead of the calls ([^.]*) the interface says: ---- ([^.]*)\\.");
    private static final Pattern OPEN_METHOD = Pattern.compile("(?m)^    public \\w+ (\\w+)\\(");
    private static final int METHODS = 48;
    private static final int HEADINGS = 8;
    private static final int CALLS_OF_A_LIFE = 512;

    public static void main(String[] args) throws IOException {
        Check check = new Check("FaceTest");
        constants(check);
        methods(check);
        otherMembers(check);
        headings(check);
        newObject(check);
        counts(check);
        life(check);
        check.end();
    }

    private static void constants(Check check) {
        check.due("BAD", DomainHouse.BAD, -1);
        check.due("NO", DomainHouse.NO, -2);
        check.due("FULL", DomainHouse.FULL, -3);
        check.due("NONE", DomainHouse.NONE, -99999999);
    }

    /** As the document writes them: what each answers, its name, what it takes. */
    private static TreeSet<String> toldMethods() {
        TreeSet<String> told = new TreeSet<>();
        Matcher matcher = METHOD.matcher(Doc.face());
        while (matcher.find()) {
            StringBuilder types = new StringBuilder();
            for (String parameter : matcher.group(3).split(", ")) {
                types.append(parameter.split(" ")[0]).append(' ');
            }
            told.add(matcher.group(1) + " " + matcher.group(2) + "( " + types.toString().trim());
        }
        return told;
    }

    private static void methods(Check check) {
        TreeSet<String> there = new TreeSet<>();
        for (Method method : DomainHouse.class.getDeclaredMethods()) {
            int kind = method.getModifiers();
            if (Modifier.isPublic(kind) && !Modifier.isStatic(kind)) {
                StringBuilder types = new StringBuilder();
                for (Class<?> type : method.getParameterTypes()) {
                    types.append(type.getName()).append(' ');
                }
                there.add(method.getReturnType().getName() + " " + method.getName() + "( " + types.toString().trim());
            } else {
                check.due("private is " + method.getName(), Modifier.isPrivate(kind) ? 1 : 0, 1);
            }
        }
        TreeSet<String> told = toldMethods();
        check.due("methods that the document tells", told.size(), METHODS);
        for (String method : told) {
            check.due("there is " + method, there.contains(method) ? 1 : 0, 1);
        }
        check.due("methods that there are", there.size(), METHODS);
    }

    private static void otherMembers(Check check) {
        int open = 0;
        for (Field field : DomainHouse.class.getDeclaredFields()) {
            int kind = field.getModifiers();
            open += Modifier.isPublic(kind) ? 1 : 0;
            check.due("open or private is " + field.getName(), Modifier.isPublic(kind) || Modifier.isPrivate(kind) ? 1 : 0, 1);
        }
        check.due("constants", open, 4);
        Constructor<?>[] makers = DomainHouse.class.getDeclaredConstructors();
        check.due("constructors", makers.length, 1);
        check.due("it is public", Modifier.isPublic(makers[0].getModifiers()) ? 1 : 0, 1);
        check.due("it takes nothing", makers[0].getParameterCount(), 0);
        int kind = DomainHouse.class.getModifiers();
        check.due("public and final", Modifier.isPublic(kind) && Modifier.isFinal(kind) ? 1 : 0, 1);
    }

    /** Calls stand in the class under the headings, and in the order, in which the document names them. */
    private static void headings(Check check) throws IOException {
        String source = Files.readString(Path.of("src/main/java/DomainHouse.java"));
        Matcher told = HEADING.matcher(Doc.headings());
        int found = 0;
        while (told.find()) {
            int from = source.indexOf("    // ---- " + told.group(2) + "\n");
            check.due("there is the heading " + told.group(2), from >= 0 ? 1 : 0, 1);
            int next = source.indexOf("    // ---- ", from + 1);
            StringBuilder there = new StringBuilder();
            Matcher method = OPEN_METHOD.matcher(source.substring(Math.max(0, from), next < 0 ? source.length() : next));
            while (method.find()) {
                there.append(there.length() == 0 ? "`" : ", `").append(method.group(1)).append('`');
            }
            check.due(told.group(2) + " has " + there, there.toString().equals(told.group(1)) ? 1 : 0, 1);
            found++;
        }
        check.due("headings", found, HEADINGS);
    }

    /** All calls of an object are answered, the 512th as the first. */
    private static void life(Check check) {
        DomainHouse house = new DomainHouse();
        check.due("prefix", house.prefix(0, 0), 0);
        check.due("domain", house.domain(), 0);
        check.due("domain", house.domain(), 1);
        check.due("tie", house.tie(0, 1, 0), 0);
        for (int call = 4; call < CALLS_OF_A_LIFE; call += 4) {
            check.due("announce, call " + (call + 1), house.announce(0, 0, 0), 0);
            check.due("go, call " + (call + 2), house.go(500), 1);
            check.due("withdraw, call " + (call + 3), house.withdraw(0, 0), 0);
            check.due("go, call " + (call + 4), house.go(500), 1);
        }
    }

    private static void newObject(Check check) {
        DomainHouse house = new DomainHouse();
        for (int what = 0; what <= 11; what++) {
            check.due("count " + what, house.count(what), 0);
        }
        check.due("count -1", house.count(-1), Check.BAD);
        check.due("count 12", house.count(12), Check.BAD);
        check.due("fault", house.fault(), 0);
        check.due("hand", house.hand(0), Check.NONE);
        check.due("ring", house.ring(0), Check.NONE);
        check.due("part 0", house.part(0), Check.NONE);
        check.due("part 1", house.part(1), Check.NONE);
        check.due("octet", house.octet(0), Check.NONE);
        check.due("led", house.led(0), Check.NONE);
        check.due("units", house.units(0), 0);
        check.due("go", house.go(1), 0);
        check.due("letWay", house.letWay(), 0);
        check.due("rests", house.rests(), 1);
        check.due("tries", house.tries(0), 1);
    }

    private static void counts(Check check) {
        DomainHouse house = new DomainHouse();
        house.prefix(0, 0);
        Check.domains(house, 3);
        house.tie(0, 1, 0);
        house.tie(1, 2, 0);
        Check.policy(house, "let;");
        Check.policy(house, "bar;");
        Check.policy(house, "");
        Check.policy(house, "");
        for (int i = 0; i < 4; i++) {
            house.right(0, 0, 0, 0, 1, 0);
            house.demand(0, 0, 1);
        }
        house.demand(0, 0, 1);
        house.feed(0, 0, 0, 0, 0);
        Check.walk(house, 1, 2, 3, 4, 5, 6, 7);
        house.today(77);
        house.announce(0, 0, 0);
        house.go(1);
        int[] want = {1, 3, 2, 4, 4, 5, 20, 1, 1, 1, 7, 77};
        for (int what = 0; what < want.length; what++) {
            check.due("count " + what, house.count(what), want[what]);
        }
    }
}
