import java.util.ArrayList;
import java.util.List;
import java.util.function.Consumer;
import java.util.function.Supplier;

/**
 * All that can be seen of a house. Asking changes some of it, and an object is good for 512 calls: so the house is
 * made anew for each part of what is asked.
 */
final class Dump {
    private static final int[] PARTS = {
        0, 1, 2, 3, 4, 5, 6, 7, 100, 101, 102, 200, 201, 202, 300, 301, 302, 400, 401, 402, 500, 501, 502, 503, 600, 601, 602, 700, 701,
    };
    private static final int DOMAINS = 10;
    private static final int PREFIXES = 10;
    private static final int TIES = 20;

    private final List<Long> answers = new ArrayList<>();

    private Dump() {
    }

    static List<Long> of(Supplier<DomainHouse> maker) {
        Dump dump = new Dump();
        List<Consumer<DomainHouse>> questions = new ArrayList<>();
        questions.add(dump::whatIsThere);
        questions.add(dump::net);
        questions.add(dump::units);
        questions.add(dump::wayInHand);
        questions.add(dump::policies);
        questions.add(dump::tapeAsText);
        questions.add(dump::tapeAsMessage);
        questions.add(dump::verdicts);
        questions.add(dump::pace);
        questions.add(dump::future);
        questions.add(dump::latestMessage);
        for (int d = 0; d < DOMAINS; d++) {
            int domain = d;
            questions.add(house -> dump.domain(house, domain));
        }
        for (int t = 0; t < TIES; t++) {
            int tie = t;
            questions.add(house -> dump.tie(house, tie));
        }
        for (Consumer<DomainHouse> question : questions) {
            question.accept(maker.get());
        }
        return dump.answers;
    }

    private void put(long answer) {
        answers.add(answer);
    }

    private void whatIsThere(DomainHouse house) {
        for (int what = 0; what <= 11; what++) {
            put(house.count(what));
        }
        put(house.fault());
        put(house.letWay());
        hand(house, 20, 8);
        for (int what : PARTS) {
            put(house.part(what));
        }
        for (int i = 0; i < 64; i++) {
            put(house.octet(i));
        }
        for (int i = 0; i < 11; i++) {
            put(house.led(i));
            put(house.ring(i));
        }
    }

    private void hand(DomainHouse house, int numbers, int marks) {
        for (int what = 0; what <= 5; what++) {
            put(house.hand(what));
        }
        for (int i = 0; i < numbers; i++) {
            put(house.hand(10 + i));
        }
        for (int i = 0; i < marks; i++) {
            put(house.hand(100 + i));
        }
    }

    private void net(DomainHouse house) {
        int rests = house.rests();
        put(rests);
        for (int i = 0; i < rests && i < 20; i++) {
            for (int place = 1; place <= 6; place++) {
                put(house.rest(i, place));
            }
        }
        for (int what = 0; what <= 3; what++) {
            put(house.tries(what));
        }
        put(house.clear());
    }

    private void units(DomainHouse house) {
        for (int what = 0; what <= 2; what++) {
            put(house.units(what));
        }
        for (int t = 0; t < TIES; t++) {
            put(house.load(t, 0));
            put(house.load(t, 1));
        }
        for (int a = 0; a < DOMAINS; a++) {
            put(house.least(a));
            put(house.differ(a, (a + 1) % DOMAINS));
            put(house.letter(a, a << 24));
            put(house.led(1));
        }
    }

    private void wayInHand(DomainHouse house) {
        put(house.wish());
        put(house.route(0, 1, 1, 1));
        hand(house, 20, 0);
    }

    private void policies(DomainHouse house) {
        for (int p = 0; p < 12; p++) {
            put(house.judge(p, 1, 0));
            put(house.judge(p, 1, 2));
            hand(house, 3, 3);
        }
    }

    private void tapeAsText(DomainHouse house) {
        put(house.policy());
        put(house.fault());
        put(house.count(4));
    }

    private void tapeAsMessage(DomainHouse house) {
        put(house.message());
        for (int what : PARTS) {
            put(house.part(what));
        }
    }

    private void verdicts(DomainHouse house) {
        for (int p = 0; p < PREFIXES; p++) {
            for (int number = 0; number < DOMAINS; number++) {
                put(house.verdict(p, number, 6, 6));
                put(house.verdict(p, number, 12, 100));
            }
        }
    }

    /** A tie that falls and comes back shows its delay; what changes then shows its gap. */
    private void pace(DomainHouse house) {
        for (int t = 0; t < TIES; t++) {
            put(house.raise(t, false));
            put(house.raise(t, true));
        }
        for (int d = 0; d < DOMAINS; d++) {
            put(house.announce(d, d, d % 3));
        }
        for (int i = 0; i < 40; i++) {
            put(house.go(1));
            put(house.count(7));
        }
        put(house.go(500));
        put(house.count(7));
    }

    private void future(DomainHouse house) {
        for (int i = 0; i < 20; i++) {
            put(house.go(1));
            put(house.count(7));
            put(house.count(8));
        }
        put(house.go(500));
        put(house.count(7));
        put(house.count(9));
        for (int d = 0; d < DOMAINS; d++) {
            for (int p = 0; p < PREFIXES; p++) {
                put(house.picked(d, p));
            }
        }
        put(house.today(50));
        put(house.go(500));
        put(house.count(7));
    }

    private void latestMessage(DomainHouse house) {
        for (int t = 0; t < TIES; t++) {
            put(house.hear(t, 0));
            put(house.hear(t, 1));
        }
        put(house.count(8));
    }

    private void domain(DomainHouse house, int domain) {
        put(house.cone(domain, -1));
        for (int p = 0; p < PREFIXES; p++) {
            put(house.picked(domain, p));
            hand(house, 3, 2);
            put(house.three(domain, p, 0));
            put(house.withdraw(domain, p));
        }
    }

    private void tie(DomainHouse house, int tie) {
        for (int side = 0; side < 2; side++) {
            for (int p = 0; p < PREFIXES; p++) {
                put(house.heard(tie, side, p, 0));
                put(house.hand(4));
                put(house.hand(10));
                put(house.heard(tie, side, p, 1));
                put(house.hand(3));
                put(house.why(tie, side, p));
            }
        }
    }
}
