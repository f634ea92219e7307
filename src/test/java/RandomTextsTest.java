import java.util.ArrayList;
import java.util.Arrays;
import java.util.List;
import java.util.Random;

/** Random texts of policies, most of them nearly right: their faults, against a second reading of the grammar. */
public final class RandomTextsTest {
    private static final int TEXTS = 60000;
    private static final String[] TOKENS = ("if and then not in to way any mark from tie length wish cost origin right customer provider equal kin "
        + "valid unknown bad let bar add drop more call < = > . / ( ) | * + ? , ; # foo 0 1 2 3 8 9 10 24 32 33 255 256 1000 1001 65535 65536 "
        + "1000000 1000001 999999999 1234567890").split(" ");
    private static final String[] NUMBERS = "0 1 2 9 10 32 255 1000 65535 1000000".split(" ");

    private final Random random;

    private RandomTextsTest(int seed) {
        random = new Random(seed);
    }

    public static void main(String[] args) {
        Check check = new Check("RandomTextsTest");
        int right = 0;
        for (int seed = 0; seed < TEXTS; seed++) {
            String text = new RandomTextsTest(seed).text();
            if (text.length() > 1000) {
                continue;
            }
            DomainHouse house = new DomainHouse();
            int policies = seed % 3;
            for (int i = 0; i < policies; i++) {
                house.policy();
            }
            NaiveReader.Fault want = NaiveReader.fault(text, policies);
            int answer = Check.policy(house, text);
            check.due("policy " + text, answer, want.kind() == 0 ? policies : -10 - want.place());
            check.due("fault of " + text, house.fault(), want.kind());
            right += want.kind() == 0 ? 1 : 0;
        }
        check.due("some are right, and some are not: " + right, right > TEXTS / 20 && right < TEXTS / 2 ? 1 : 0, 1);
        check.end();
    }

    private String text() {
        List<String> tokens = new ArrayList<>();
        int rows = random.nextInt(8) == 0 ? 29 + random.nextInt(4) : random.nextInt(4);
        for (int i = 0; i < rows; i++) {
            row(tokens, rows > 4);
        }
        int faults = random.nextInt(3);
        for (int i = 0; i < faults && !tokens.isEmpty(); i++) {
            spoil(tokens);
        }
        StringBuilder text = new StringBuilder();
        for (String token : tokens) {
            text.append(token).append(random.nextInt(6) == 0 ? "\n" : " ");
        }
        return random.nextInt(3) == 0 ? text.toString().stripTrailing() : text.toString();
    }

    private void spoil(List<String> tokens) {
        int place = random.nextInt(tokens.size());
        String token = TOKENS[random.nextInt(TOKENS.length)];
        switch (random.nextInt(4)) {
            case 0:
                tokens.set(place, token);
                break;
            case 1:
                tokens.add(place, token);
                break;
            case 2:
                tokens.remove(place);
                break;
            default:
                tokens.subList(place, tokens.size()).clear();
                break;
        }
    }

    private String pick(String... each) {
        return each[random.nextInt(each.length)];
    }

    private void row(List<String> tokens, boolean small) {
        if (!small && random.nextBoolean()) {
            tokens.add("if");
            test(tokens);
            while (random.nextInt(3) == 0) {
                tokens.add("and");
                test(tokens);
            }
            tokens.add("then");
        }
        act(tokens);
        while (!small && random.nextInt(3) == 0) {
            tokens.add(",");
            act(tokens);
        }
        tokens.add(";");
    }

    private void act(List<String> tokens) {
        String act = pick("let", "bar", "add", "drop", "wish", "cost", "more", "call");
        tokens.add(act);
        if (!act.equals("let") && !act.equals("bar")) {
            tokens.add(act.equals("more") || act.equals("call") ? pick("0", "1", "2", "9") : pick(NUMBERS));
        }
    }

    private void test(List<String> tokens) {
        while (random.nextInt(4) == 0) {
            tokens.add("not");
        }
        String test = pick("in", "way", "mark", "from", "tie", "length", "wish", "cost", "origin", "right", "way", "in");
        tokens.add(test);
        switch (test) {
            case "in":
                in(tokens);
                break;
            case "way":
                tokens.add("(");
                any(tokens, 0);
                tokens.add(")");
                break;
            case "tie":
                tokens.add(pick("customer", "provider", "equal", "kin"));
                break;
            case "right":
                tokens.add(pick("valid", "unknown", "bad"));
                break;
            case "length": case "wish": case "cost":
                tokens.add(pick("<", "=", ">"));
                tokens.add(pick(NUMBERS));
                break;
            default:
                tokens.add(test.equals("mark") ? pick(NUMBERS) : pick("0", "1", "2", "9"));
                break;
        }
    }

    private void in(List<String> tokens) {
        String second = pick("0", "1", "128", "255");
        tokens.addAll(Arrays.asList(pick("0", "10", "255"), ".", second, ".", pick("0", "0", "64"), ".", pick("0", "0", "1"), "/"));
        tokens.add(pick("0", "8", "9", "16", "18", "31", "32"));
        if (random.nextBoolean()) {
            tokens.add("to");
            tokens.add(pick("8", "16", "32", "32"));
        }
    }

    private void any(List<String> tokens, int depth) {
        int pieces = random.nextInt(12) == 0 ? 20 : random.nextInt(4);
        for (int i = 0; i < pieces; i++) {
            if (depth < 6 && random.nextInt(depth == 0 ? 3 : 2) == 0) {
                tokens.add("(");
                any(tokens, depth + 1);
                tokens.add(")");
            } else {
                tokens.add(random.nextInt(3) == 0 ? "any" : pick(NUMBERS));
            }
            if (random.nextInt(3) == 0) {
                tokens.add(pick("*", "+", "?"));
            }
            if (random.nextInt(5) == 0) {
                tokens.add("|");
            }
        }
    }
}
