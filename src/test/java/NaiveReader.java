import java.util.ArrayDeque;
import java.util.ArrayList;
import java.util.Deque;
import java.util.List;
import java.util.Map;
import java.util.regex.Matcher;
import java.util.regex.Pattern;

/**
 * A second reading of the grammar of policies: one token after another through a table of what may stand where. A
 * place of the table is a row of "token:next place"; "NN" stands for any number, whose range hangs on the place.
 */
final class NaiveReader {
    private static final Pattern TOKEN = Pattern.compile("[a-z]+|[0-9]+|[^a-z0-9 \\n]", Pattern.DOTALL);
    private static final List<String> WORDS = List.of(("if and then not in to way any mark from tie length wish cost origin right "
        + "customer provider equal kin valid unknown bad let bar add drop more call").split(" "));
    private static final String ACT = "let:acted bar:acted add:add drop:add wish:wishAct cost:costAct more:more call:call ";
    private static final String WAY = "NN:atom any:atom (:open ):close |:way ";
    private static final Map<String, String> TABLE = Map.ofEntries(
        Map.entry("row", "if:test " + ACT),
        Map.entry("act", ACT),
        Map.entry("acted", ",:act ;:row "),
        Map.entry("add", "NN:acted "), Map.entry("wishAct", "NN:acted "), Map.entry("costAct", "NN:acted "),
        Map.entry("more", "NN:acted "), Map.entry("call", "NN:acted "),
        Map.entry("test", "not:test in:in0 way:wayBegins mark:mark from:from tie:tie length:lengthRel wish:wishRel cost:costRel "
            + "origin:origin right:right "),
        Map.entry("tested", "and:test then:act "),
        Map.entry("mark", "NN:tested "), Map.entry("from", "NN:tested "), Map.entry("origin", "NN:tested "),
        Map.entry("tie", "customer:tested provider:tested equal:tested kin:tested "),
        Map.entry("right", "valid:tested unknown:tested bad:tested "),
        Map.entry("lengthRel", "<:cost =:cost >:cost "), Map.entry("costRel", "<:cost =:cost >:cost "),
        Map.entry("wishRel", "<:wish =:wish >:wish "),
        Map.entry("cost", "NN:tested "), Map.entry("wish", "NN:tested "),
        Map.entry("in0", "NN:dot1 "), Map.entry("dot1", ".:in1 "), Map.entry("in1", "NN:dot2 "), Map.entry("dot2", ".:in2 "),
        Map.entry("in2", "NN:dot3 "), Map.entry("dot3", ".:in3 "), Map.entry("in3", "NN:slash "), Map.entry("slash", "/:inLength "),
        Map.entry("inLength", "NN:inTested "), Map.entry("inTested", "to:to and:test then:act "), Map.entry("to", "NN:tested "),
        Map.entry("wayBegins", "(:open "),
        Map.entry("way", WAY),
        Map.entry("atom", "*:way +:way ?:way " + WAY));

    private final int policies;
    private String at = "row";
    private final Deque<Boolean> brackets = new ArrayDeque<>();
    private final List<Integer> address = new ArrayList<>();
    private int rows;
    private int inWays;
    private int inLength;

    /** Kind and place of the first fault; kind 0: there is none. */
    record Fault(int kind, int place) {
    }

    private NaiveReader(int policies) {
        this.policies = policies;
    }

    static Fault fault(String text, int policies) {
        NaiveReader reader = new NaiveReader(policies);
        Matcher matcher = TOKEN.matcher(text);
        while (matcher.find()) {
            int kind = reader.meet(matcher.group());
            if (kind != 0) {
                return new Fault(kind, matcher.start());
            }
        }
        return reader.at.equals("row") ? new Fault(0, 0) : new Fault(2, text.length());
    }

    private int meet(String token) {
        boolean isNumber = token.matches("[0-9]+");
        boolean isWord = token.matches("[a-z]+");
        if (isNumber && token.length() > 9 || isWord && !WORDS.contains(token)) {
            return 1;
        }
        String key = isNumber ? "NN" : token;
        String next = null;
        for (String entry : TABLE.get(at).split(" ")) {
            int colon = entry.lastIndexOf(':');
            if (entry.substring(0, colon).equals(key)) {
                next = entry.substring(colon + 1);
            }
        }
        if (next == null) {
            return 2;
        }
        if (isNumber && !fits(Integer.parseInt(token))) {
            return 3;
        }
        if (tooMany(next)) {
            return 4;
        }
        move(next);
        return 0;
    }

    private boolean fits(int number) {
        switch (at) {
            case "mark": case "add":
                return number <= 65535;
            case "from":
                return number <= 9;
            case "origin":
                return number <= 2;
            case "wish": case "wishAct":
                return number <= 1000;
            case "more":
                return number >= 1 && number <= 9;
            case "call":
                return number < policies;
            case "in0": case "in1": case "in2": case "in3":
                address.add(number);
                return number <= 255;
            case "inLength":
                inLength = number;
                return number <= 32 && noBitsBehind();
            case "to":
                return number >= inLength && number <= 32;
            default:
                return number <= 1000000;
        }
    }

    private boolean noBitsBehind() {
        String bits = "";
        for (int i = address.size() - 4; i < address.size(); i++) {
            bits += Integer.toBinaryString(256 + address.get(i)).substring(1);
        }
        return !bits.substring(inLength).contains("1");
    }

    private boolean tooMany(String next) {
        if (at.equals("row")) {
            rows++;
            return rows > 30;
        }
        if (next.equals("atom")) {
            inWays++;
            return inWays > 40;
        }
        return next.equals("open") && brackets.size() >= 6;
    }

    private void move(String next) {
        if (next.equals("open")) {
            brackets.push(true);
            at = "way";
        } else if (next.equals("close")) {
            brackets.pop();
            at = brackets.isEmpty() ? "tested" : "atom";
        } else {
            at = next;
        }
    }
}
