import java.nio.charset.StandardCharsets;

/** What the tests share: counting wrong answers, and filling an object's tape. */
final class Check {
    static final int BAD = DomainHouse.BAD;
    static final int NO = DomainHouse.NO;
    static final int FULL = DomainHouse.FULL;
    static final int NONE = DomainHouse.NONE;
    static final int OWN = -4;

    private final String test;
    private String sentence = "";
    private int asked;
    private int wrong;

    Check(String test) {
        this.test = test;
    }

    void due(String call, long got, long want) {
        asked++;
        if (got != want) {
            wrong++;
            System.out.println(test + sentence + ": " + call + " answered " + got + ", due is " + want);
        }
    }

    /** What follows tests these words of a promise; they must stand in the document just so. */
    void promise(int number, String words) {
        quote("promise " + number, Doc.promise(number), words);
    }

    /** What follows tests these words of a part of the document's terms, 0 being the words ahead of part 1. */
    void term(int part, String words) {
        quote("part " + part, Doc.term(part), words);
    }

    private void quote(String where, String text, String words) {
        sentence = " (" + where + ": " + words + ")";
        due("do these words stand there", text.contains(words) ? 1 : 0, 1);
    }

    /** Asks from 0 on: the row is just this, and behind it is NONE. */
    void dueRow(String call, java.util.function.IntUnaryOperator ask, int... want) {
        for (int i = 0; i < want.length; i++) {
            due(call + " " + i, ask.applyAsInt(i), want[i]);
        }
        due(call + " behind", ask.applyAsInt(want.length), NONE);
    }

    void end() {
        System.out.println(test + ": " + asked + " answers, " + wrong + " wrong");
        if (wrong != 0) {
            System.exit(1);
        }
    }

    static void tape(DomainHouse house, int... bytes) {
        if (bytes.length > 1000) {
            throw new IllegalArgumentException("a test's tape of " + bytes.length + " bytes");
        }
        house.cut(0);
        for (int from = 0; from < bytes.length; from += 20) {
            int[] numbers = new int[5];
            for (int i = 0; i < 20; i++) {
                int one = from + i < bytes.length ? bytes[from + i] & 255 : 0;
                numbers[i / 4] |= one << 24 - 8 * (i % 4);
            }
            house.feed(numbers[0], numbers[1], numbers[2], numbers[3], numbers[4]);
        }
        house.cut(bytes.length);
    }

    static void tape(DomainHouse house, String text) {
        byte[] bytes = text.getBytes(StandardCharsets.ISO_8859_1);
        int[] numbers = new int[bytes.length];
        for (int i = 0; i < bytes.length; i++) {
            numbers[i] = bytes[i] & 255;
        }
        tape(house, numbers);
    }

    static int policy(DomainHouse house, String text) {
        tape(house, text);
        return house.policy();
    }

    static int message(DomainHouse house, int... bytes) {
        tape(house, bytes);
        return house.message();
    }

    static void walk(DomainHouse house, int... numbers) {
        house.walk(-1);
        for (int number : numbers) {
            house.walk(number);
        }
    }

    static void domains(DomainHouse house, int count) {
        for (int i = 0; i < count; i++) {
            house.domain();
        }
    }
}
