import java.lang.management.ManagementFactory;

/** All calls of a run live in one room: what they make is counted, in bytes of the machine, and must stay small. */
public final class RoomTest {
    private static final com.sun.management.ThreadMXBean THREADS =
        (com.sun.management.ThreadMXBean) ManagementFactory.getThreadMXBean();
    private static final long MOST = 2_000_000;

    public static void main(String[] args) {
        Check check = new Check("RoomTest");
        busyNet(check);
        faultyTexts(check);
        fullNet(check);
        check.end();
    }

    private static long made() {
        return THREADS.getThreadAllocatedBytes(Thread.currentThread().getId());
    }

    private static void small(Check check, String name, long before) {
        long bytes = made() - before;
        check.due(name + " made " + bytes + " bytes", bytes < MOST ? 1 : 0, 1);
    }

    private static void busyNet(Check check) {
        long before = made();
        DomainHouse house = new DomainHouse();
        for (int i = 0; i < 10; i++) {
            house.domain();
            house.prefix(i << 24, 8);
        }
        for (int i = 0; i < 10; i++) {
            house.tie(i, (i + 1) % 10, 0);
            house.tie(i, (i + 3) % 10, 1);
            house.announce(i, i, 0);
        }
        for (int i = 0; i < 110; i++) {
            house.today(i);
            house.go(500);
            house.raise(i % 20, i % 3 == 0);
            house.least(i % 10);
        }
        small(check, "a busy net", before);
    }

    private static void faultyTexts(Check check) {
        DomainHouse house = new DomainHouse();
        String text = "if way(" + "()".repeat(480) + ")then foo;";
        long tapeOnly = made();
        Check.tape(house, text);
        tapeOnly = made() - tapeOnly;
        long before = made();
        for (int i = 0; i < 50; i++) {
            Check.policy(house, text);
        }
        small(check, "faulty texts", before + 50 * tapeOnly);
    }

    private static void fullNet(Check check) {
        DomainHouse house = new DomainHouse();
        for (int place = 1; place <= 6; place++) {
            for (int i = 1; i <= 4; i++) {
                Check.walk(house, place, (place + i - 1) % 6 + 1, 0);
                house.wish();
            }
            Check.walk(house, place, 0);
            house.wish();
        }
        long before = made();
        for (int i = 0; i < 100; i++) {
            house.rests();
            house.tries(i % 4);
            house.rest(0, 1);
        }
        small(check, "a full net", before);
    }
}
