import java.util.ArrayList;
import java.util.List;
import java.util.Random;
import java.util.TreeSet;
import java.util.function.Predicate;

/** A policy made at random as a tree, with its text, and gone through by walking that tree. */
final class NaivePolicy {
    /** A route while a policy is gone through. */
    static final class Going {
        final NaiveHouse house;
        final int domain;
        final int partner;
        final String tie;
        final int prefix;
        List<Integer> way;
        int wish;
        int origin;
        int cost;
        TreeSet<Integer> marks;
        int acts;

        Going(NaiveHouse house, NaiveHouse.Route route, int domain, int partner, String tie) {
            this.house = house;
            this.domain = domain;
            this.partner = partner;
            this.tie = tie;
            prefix = route.prefix();
            way = new ArrayList<>(route.way());
            wish = route.wish();
            origin = route.origin();
            cost = route.cost();
            marks = new TreeSet<>(route.marks());
        }

        NaiveHouse.Route route() {
            return new NaiveHouse.Route(prefix, List.copyOf(way), wish, origin, cost, List.copyOf(marks));
        }
    }

    record Test(String text, Predicate<Going> holds) {
    }

    record Act(String text, String kind, int number) {
    }

    record Row(List<Test> tests, List<Act> acts) {
    }

    /** A part of a way: one number, any one, or a choice of rows; as often as the sign tells. */
    record Piece(Integer number, List<List<Piece>> choice, String sign) {
        String text() {
            String inner = choice != null ? "(" + choiceText(choice) + ")" : number == null ? "any" : number.toString();
            return inner + sign;
        }

        static String choiceText(List<List<Piece>> choice) {
            List<String> rows = new ArrayList<>();
            for (List<Piece> row : choice) {
                List<String> pieces = new ArrayList<>();
                for (Piece piece : row) {
                    pieces.add(piece.text());
                }
                rows.add(String.join(" ", pieces));
            }
            return String.join("|", rows);
        }

        private TreeSet<Integer> once(List<Integer> way, int from) {
            TreeSet<Integer> ends = new TreeSet<>();
            if (choice != null) {
                return ends(choice, way, from);
            }
            if (from < way.size() && (number == null || way.get(from).equals(number))) {
                ends.add(from + 1);
            }
            return ends;
        }

        TreeSet<Integer> ends(List<Integer> way, int from) {
            TreeSet<Integer> ends = new TreeSet<>();
            if (sign.equals("*") || sign.equals("?")) {
                ends.add(from);
            }
            TreeSet<Integer> now = once(way, from);
            ends.addAll(now);
            boolean grows = sign.equals("*") || sign.equals("+");
            while (grows) {
                TreeSet<Integer> further = new TreeSet<>();
                for (int at : ends) {
                    further.addAll(once(way, at));
                }
                grows = ends.addAll(further);
            }
            return ends;
        }

        static TreeSet<Integer> ends(List<List<Piece>> choice, List<Integer> way, int from) {
            TreeSet<Integer> all = new TreeSet<>();
            for (List<Piece> row : choice) {
                TreeSet<Integer> at = new TreeSet<>(List.of(from));
                for (Piece piece : row) {
                    TreeSet<Integer> behind = new TreeSet<>();
                    for (int one : at) {
                        behind.addAll(piece.ends(way, one));
                    }
                    at = behind;
                }
                all.addAll(at);
            }
            return all;
        }
    }

    final List<Row> rows = new ArrayList<>();

    String text() {
        StringBuilder text = new StringBuilder();
        for (Row row : rows) {
            List<String> tests = new ArrayList<>();
            row.tests().forEach(test -> tests.add(test.text()));
            List<String> acts = new ArrayList<>();
            row.acts().forEach(act -> acts.add(act.text()));
            text.append(tests.isEmpty() ? "" : "if " + String.join(" and ", tests) + " then ");
            text.append(String.join(",", acts)).append(";\n");
        }
        return text.toString();
    }

    /** 1 let, 0 barred, -1 over without these. */
    int goThrough(Going going) {
        for (Row row : rows) {
            if (!row.tests().stream().allMatch(test -> test.holds().test(going))) {
                continue;
            }
            for (Act act : row.acts()) {
                if (going.acts == 500) {
                    return 0;
                }
                going.acts++;
                int over = act(going, act);
                if (over >= 0) {
                    return over;
                }
            }
        }
        return -1;
    }

    private static int act(Going going, Act act) {
        switch (act.kind()) {
            case "let":
                return 1;
            case "bar":
                return 0;
            case "add":
                if (going.marks.size() < 8) {
                    going.marks.add(act.number());
                }
                return -1;
            case "drop":
                going.marks.remove(act.number());
                return -1;
            case "wish":
                going.wish = act.number();
                return -1;
            case "cost":
                going.cost = act.number();
                return -1;
            case "more":
                if (!going.way.isEmpty() && going.way.size() + act.number() > 20) {
                    return 0;
                }
                for (int i = 0; i < act.number() && !going.way.isEmpty(); i++) {
                    going.way.add(0, going.way.get(0));
                }
                return -1;
            default:
                return going.house.policies.get(act.number()).goThrough(going);
        }
    }

    static NaivePolicy random(Random random, NaiveHouse house) {
        NaivePolicy policy = new NaivePolicy();
        int rows = random.nextInt(4);
        for (int i = 0; i < rows; i++) {
            List<Test> tests = new ArrayList<>();
            for (int k = random.nextInt(3); k > 0; k--) {
                tests.add(randomTest(random, 0));
            }
            List<Act> acts = new ArrayList<>();
            for (int k = random.nextInt(3); k >= 0; k--) {
                acts.add(randomAct(random, house));
            }
            policy.rows.add(new Row(tests, acts));
        }
        return policy;
    }

    private static Act randomAct(Random random, NaiveHouse house) {
        switch (random.nextInt(12)) {
            case 0:
                return new Act("let", "let", 0);
            case 1:
                return new Act("bar", "bar", 0);
            case 2:
            case 3:
            case 4:
                return numbered("add", random.nextInt(11));
            case 5:
                return numbered("drop", random.nextInt(11));
            case 6:
            case 7:
                return numbered("wish", 98 + random.nextInt(5));
            case 8:
                return numbered("cost", random.nextInt(4));
            case 9:
                return numbered("more", 1 + random.nextInt(random.nextInt(4) == 0 ? 9 : 2));
            default:
                return house.policies.isEmpty() ? numbered("cost", 2) : numbered("call", random.nextInt(house.policies.size()));
        }
    }

    private static Act numbered(String kind, int number) {
        return new Act(kind + " " + number, kind, number);
    }

    private static Test randomTest(Random random, int depth) {
        if (depth < 3 && random.nextInt(4) == 0) {
            Test inner = randomTest(random, depth + 1);
            return new Test("not " + inner.text(), going -> !inner.holds().test(going));
        }
        int number = random.nextInt(4);
        switch (random.nextInt(12)) {
            case 0:
                return randomIn(random);
            case 1:
            case 2:
                List<List<Piece>> choice = randomChoice(random, 1, new int[] {12});
                String text = "way(" + Piece.choiceText(choice) + ")";
                return new Test(text, going -> Piece.ends(choice, going.way, 0).contains(going.way.size()));
            case 3:
                int mark = random.nextInt(11);
                return new Test("mark " + mark, going -> going.marks.contains(mark));
            case 4:
                return new Test("from " + number, going -> going.partner == number);
            case 5:
                String kind = List.of("customer", "provider", "equal", "kin").get(number);
                return new Test("tie " + kind, going -> going.tie.equals(kind));
            case 6:
                return relation(random, "length", random.nextInt(5), going -> going.way.size());
            case 7:
                return random.nextBoolean() ? relation(random, "wish", 98 + random.nextInt(5), going -> going.wish)
                    : relation(random, "cost", number, going -> going.cost);
            case 8:
                int origin = random.nextInt(3);
                return new Test("origin " + origin, going -> going.origin == origin);
            default:
                int verdict = random.nextInt(3);
                String word = List.of("bad", "valid", "unknown").get(verdict);
                return new Test("right " + word, going -> verdictOf(going) == verdict);
        }
    }

    private static int verdictOf(Going going) {
        int beginner = going.way.isEmpty() ? going.domain : going.way.get(going.way.size() - 1);
        return going.house.verdict(going.prefix, beginner, going.house.today, going.house.today);
    }

    private static Test relation(Random random, String word, int number, java.util.function.ToIntFunction<Going> value) {
        String sign = List.of("<", "=", ">").get(random.nextInt(3));
        return new Test(word + sign + number, going -> {
            int one = value.applyAsInt(going);
            return sign.equals("<") ? one < number : sign.equals("=") ? one == number : one > number;
        });
    }

    private static Test randomIn(Random random) {
        int length = random.nextInt(33);
        int address = length == 0 ? 0 : (random.nextBoolean() ? 10 << 24 : random.nextInt()) & -1 << 32 - length;
        int most = length + random.nextInt(33 - length);
        boolean told = random.nextBoolean();
        String text = "in " + (address >>> 24) + "." + (address >>> 16 & 255) + "." + (address >>> 8 & 255) + "."
            + (address & 255) + "/" + length + (told ? " to " + most : "");
        NaiveHouse.Prefix above = new NaiveHouse.Prefix(address, length);
        return new Test(text, going -> {
            NaiveHouse.Prefix prefix = going.house.prefixes.get(going.prefix);
            return above.holds(prefix) && (!told || prefix.length() <= most);
        });
    }

    static List<List<Piece>> randomChoice(Random random, int depth, int[] left) {
        List<List<Piece>> choice = new ArrayList<>();
        int rows = 1 + random.nextInt(3) / 2 + random.nextInt(3) / 2;
        for (int i = 0; i < rows; i++) {
            List<Piece> row = new ArrayList<>();
            for (int k = random.nextInt(4); k > 0; k--) {
                String sign = List.of("", "", "*", "+", "?").get(random.nextInt(5));
                if (depth < 6 && random.nextInt(3) == 0) {
                    row.add(new Piece(null, randomChoice(random, depth + 1, left), sign));
                } else if (left[0]-- > 0) {
                    row.add(new Piece(random.nextInt(3) == 0 ? null : random.nextInt(4), null, sign));
                }
            }
            choice.add(row);
        }
        return choice;
    }
}
