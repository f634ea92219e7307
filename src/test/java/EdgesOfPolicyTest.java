/** The edges of promises 17 to 21 and of part 3 of the terms: texts, their faults, going through them. */
public final class EdgesOfPolicyTest {
    private static final int LEAST = Integer.MIN_VALUE;
    private static final int MOST = Integer.MAX_VALUE;
    private static final int NO_WORD = 1;
    private static final int NOT_THERE = 2;
    private static final int NUMBER = 3;
    private static final int TOO_MANY = 4;
    private static final String WORDS = "if and then not in to way any mark from tie length wish cost origin right "
        + "customer provider equal kin valid unknown bad let bar add drop more call";

    public static void main(String[] args) {
        Check check = new Check("EdgesOfPolicyTest");
        everyByte(check);
        everyWord(check);
        figures(check);
        blanks(check);
        emptyTexts(check);
        rowsAndTests(check);
        everyTest(check);
        everyAct(check);
        everyAny(check);
        tokensThatCannotStand(check);
        placesOfFaults(check);
        firstFault(check);
        numbersOfTests(check);
        numbersOfIn(check);
        numbersOfActs(check);
        numberOfACall(check);
        thirtyRows(check);
        fortyPlaces(check);
        sixBrackets(check);
        eachTextByItself(check);
        leastOfOneToken(check);
        longTexts(check);
        twelvePolicies(check);
        policyEmptiesTheTape(check);
        faultOfTheLatest(check);
        routeInHand(check);
        wrongRoutes(check);
        judged(check);
        wrongJudges(check);
        noRouteToJudge(check);
        asked(check);
        check.end();
    }

    private static void fault(Check check, String text, int kind, int place) {
        DomainHouse house = new DomainHouse();
        check.due("policy " + text, Check.policy(house, text), -10 - place);
        check.due("fault of " + text, house.fault(), kind);
        check.due("no policy by " + text, house.count(4), 0);
    }

    private static void right(Check check, String text) {
        DomainHouse house = new DomainHouse();
        check.due("policy " + text, Check.policy(house, text), 0);
        check.due("no fault of " + text, house.fault(), 0);
    }

    // ---- tokens

    private static void everyByte(Check check) {
        check.term(3, "TOKENS: rows of letters a .. z, rows of figures (NUMBERS, 9 at most), any other byte but blanks (32, 10).");
        for (int one = 0; one <= 255; one++) {
            DomainHouse house = new DomainHouse();
            Check.tape(house, one);
            boolean blank = one == 32 || one == 10;
            boolean letter = one >= 'a' && one <= 'z';
            check.due("byte " + one, house.policy(), blank ? 0 : -10);
            check.due("fault of byte " + one, house.fault(), blank ? 0 : letter ? NO_WORD : NOT_THERE);
        }
        for (int one = 0; one <= 255; one++) {
            DomainHouse house = new DomainHouse();
            Check.tape(house, 'l', 'e', 't', one, ';');
            boolean blank = one == 32 || one == 10;
            boolean letter = one >= 'a' && one <= 'z';
            int want = blank ? 0 : letter ? -10 : one == ';' ? -14 : one == ',' ? -14 : -13;
            check.due("let, byte " + one, house.policy(), want);
            check.due("fault of let, byte " + one, house.fault(), blank ? 0 : letter ? NO_WORD : NOT_THERE);
        }
    }

    private static void everyWord(Check check) {
        check.term(3, "WORDS: if and then not in to way any mark from tie length wish cost origin right "
            + "customer provider equal kin valid unknown bad let bar add drop more call.");
        check.term(3, "1 a row of letters that is no WORD,");
        for (String word : WORDS.split(" ")) {
            boolean begins = word.matches("if|let|bar|add|drop|wish|cost|more|call");
            fault(check, word + " )", NOT_THERE, begins ? word.length() + 1 : 0);
            fault(check, word + "z", NO_WORD, 0);
            fault(check, "z" + word, NO_WORD, 0);
            fault(check, word.substring(0, word.length() - 1), NO_WORD, 0);
            if (!word.equals("kin")) {
                fault(check, word.substring(1), NO_WORD, 0);
            }
            fault(check, word.toUpperCase(), NOT_THERE, 0);
            for (int i = 0; i < word.length(); i++) {
                fault(check, word.substring(0, i) + "j" + word.substring(i + 1), NO_WORD, 0);
            }
            String far = " ".repeat(1000 - word.length());
            fault(check, far + word, NOT_THERE, begins ? 1000 : 1000 - word.length());
            fault(check, far + word.substring(0, word.length() - 1) + "j", NO_WORD, 1000 - word.length());
            fault(check, far + " " + word.substring(0, word.length() - 1), NO_WORD, 1001 - word.length());
        }
        fault(check, "a", NO_WORD, 0);
        fault(check, "z", NO_WORD, 0);
        fault(check, "letlet;", NO_WORD, 0);
        fault(check, "x".repeat(1000), NO_WORD, 0);
        right(check, "add1,drop2;if mark3then let;");
    }

    private static void figures(Check check) {
        check.term(3, "rows of figures (NUMBERS, 9 at most),");
        check.term(3, "of ten figures or more;");
        right(check, "add 000065535;");
        fault(check, "add 0000065535;", NO_WORD, 4);
        fault(check, "add 999999999;", NUMBER, 4);
        fault(check, "add 1000000000;", NO_WORD, 4);
        fault(check, "add 2147483648;", NO_WORD, 4);
        fault(check, "add 4294967296;", NO_WORD, 4);
        fault(check, "add 18446744073709551616;", NO_WORD, 4);
        fault(check, "0000000000", NO_WORD, 0);
        fault(check, "000000000", NOT_THERE, 0);
        fault(check, "add " + "1".repeat(996), NO_WORD, 4);
        right(check, "if way(000000001 1 1000000)then let;");
        fault(check, "add 1 2;", NOT_THERE, 6);
    }

    private static void blanks(Check check) {
        check.term(3, "any other byte but blanks (32, 10).");
        right(check, " \n\n  let\n,\nbar ;\n ");
        right(check, "if in 1 . 2 .3. 0/ 24 to\n24 then let;");
        fault(check, "let\t;", NOT_THERE, 3);
        fault(check, "let\r;", NOT_THERE, 3);
        fault(check, "let;\u0000", NOT_THERE, 4);
        fault(check, "let;\u00a0", NOT_THERE, 4);
        fault(check, "l et;", NO_WORD, 0);
        fault(check, "add 6 5;", NOT_THERE, 6);
    }

    // ---- grammar

    private static void emptyTexts(Check check) {
        check.term(3, "text: { row }");
        right(check, "");
        right(check, " ");
        right(check, "\n");
        right(check, " \n".repeat(500));
        right(check, "let;");
        right(check, "let;let;");
        fault(check, ";", NOT_THERE, 0);
        fault(check, "let;;", NOT_THERE, 4);
    }

    private static void rowsAndTests(Check check) {
        check.term(3, "row: [ if TEST { and TEST } then ] ACT { , ACT } ;");
        right(check, "if mark 1 then let;");
        right(check, "if mark 1 and mark 2 and mark 3 then let,bar;");
        right(check, "let,bar,let;");
        fault(check, "if then let;", NOT_THERE, 3);
        fault(check, "if mark 1 let;", NOT_THERE, 10);
        fault(check, "if mark 1 and let;", NOT_THERE, 14);
        fault(check, "if mark 1 mark 2 then let;", NOT_THERE, 10);
        fault(check, "if mark 1 then;", NOT_THERE, 14);
        fault(check, "if mark 1 then if mark 2 then let;", NOT_THERE, 15);
        fault(check, "mark 1 then let;", NOT_THERE, 0);
        fault(check, "then let;", NOT_THERE, 0);
        fault(check, "and mark 1 then let;", NOT_THERE, 0);
        fault(check, "let,;", NOT_THERE, 4);
        fault(check, ",let;", NOT_THERE, 0);
        fault(check, "let bar;", NOT_THERE, 4);
        fault(check, "let", NOT_THERE, 3);
        fault(check, "let,", NOT_THERE, 4);
        fault(check, "if", NOT_THERE, 2);
        fault(check, "if mark 1", NOT_THERE, 9);
        fault(check, "if mark 1 and", NOT_THERE, 13);
        fault(check, "if mark 1 then", NOT_THERE, 14);
    }

    private static void everyTest(Check check) {
        check.term(3, "TEST: not TEST | in NUMBER . NUMBER . NUMBER . NUMBER / NUMBER [ to NUMBER ] | way ( ANY ) | mark NUMBER | "
            + "from NUMBER | tie (one of) customer provider equal kin | length REL NUMBER | wish REL NUMBER | cost REL NUMBER | "
            + "origin NUMBER | right (one of) valid unknown bad REL: < = >");
        String[] tests = {
            "mark 0", "from 0", "origin 0", "tie customer", "tie provider", "tie equal", "tie kin", "right valid", "right unknown",
            "right bad", "length<0", "length=0", "length>0", "wish<0", "wish=0", "wish>0", "cost<0", "cost=0", "cost>0", "way()",
            "in 0.0.0.0/0", "in 0.0.0.0/0 to 0", "not mark 0", "not not mark 0", "not not not in 0.0.0.0/0",
        };
        for (String test : tests) {
            right(check, "if " + test + " then let;");
            right(check, "if mark 1 and not " + test + " then let;");
            String noBlanks = "if " + test;
            fault(check, noBlanks, NOT_THERE, noBlanks.length());
        }
        right(check, "if " + "not ".repeat(240) + "mark 1 then let;");
        fault(check, "if not then let;", NOT_THERE, 7);
        fault(check, "if not not", NOT_THERE, 10);
        for (String word : WORDS.split(" ")) {
            if (!word.matches("customer|provider|equal|kin")) {
                fault(check, "if tie " + word + " then let;", NOT_THERE, 7);
            }
            if (!word.matches("valid|unknown|bad")) {
                fault(check, "if right " + word + " then let;", NOT_THERE, 9);
            }
            if (!word.matches("not|in|way|mark|from|tie|length|wish|cost|origin|right")) {
                fault(check, "if " + word + " then let;", NOT_THERE, 3);
            }
        }
        for (String name : new String[] {"length", "wish", "cost"}) {
            fault(check, "if " + name + " 1 then let;", NOT_THERE, name.length() + 4);
            fault(check, "if " + name + "<>1 then let;", NOT_THERE, name.length() + 4);
            fault(check, "if " + name + "<=1 then let;", NOT_THERE, name.length() + 4);
            fault(check, "if " + name + "==1 then let;", NOT_THERE, name.length() + 4);
            fault(check, "if " + name + ";1 then let;", NOT_THERE, name.length() + 3);
            fault(check, "if " + name + "?1 then let;", NOT_THERE, name.length() + 3);
            fault(check, "if " + name + "< then let;", NOT_THERE, name.length() + 5);
        }
        fault(check, "if mark = 1 then let;", NOT_THERE, 8);
        fault(check, "if from then let;", NOT_THERE, 8);
        fault(check, "if origin then let;", NOT_THERE, 10);
        fault(check, "if in 1.2.3/24 then let;", NOT_THERE, 11);
        fault(check, "if in 1.2.3.0.0/24 then let;", NOT_THERE, 13);
        fault(check, "if in 1,2.3.0/24 then let;", NOT_THERE, 7);
        fault(check, "if in 1..3.0/24 then let;", NOT_THERE, 8);
        fault(check, "if in 1.2.3.0 24 then let;", NOT_THERE, 14);
        fault(check, "if in 1.2.3.0/ then let;", NOT_THERE, 15);
        fault(check, "if in 1.2.3.0/24 to then let;", NOT_THERE, 20);
        fault(check, "if in 1.2.3.0/24 to 24 to 24 then let;", NOT_THERE, 23);
        fault(check, "if in /0 then let;", NOT_THERE, 6);
    }

    private static void everyAct(Check check) {
        check.term(3, "ACT: let | bar | add NUMBER | drop NUMBER | wish NUMBER | cost NUMBER | more NUMBER | call NUMBER");
        String[] acts = {"let", "bar", "add 0", "drop 0", "wish 0", "cost 0", "more 1"};
        for (String act : acts) {
            right(check, act + ";");
            right(check, "bar," + act + ",let;");
            fault(check, act, NOT_THERE, act.length());
            fault(check, act + " 1;", NOT_THERE, act.length() + 1);
        }
        for (String word : new String[] {"add", "drop", "wish", "cost", "more", "call"}) {
            fault(check, word + ";", NOT_THERE, word.length());
            fault(check, word + " any;", NOT_THERE, word.length() + 1);
            fault(check, word + " -1;", NOT_THERE, word.length() + 1);
            fault(check, word + " =1;", NOT_THERE, word.length() + 1);
        }
        for (String word : WORDS.split(" ")) {
            if (!word.matches("let|bar|add|drop|wish|cost|more|call")) {
                fault(check, "let," + word + " 1;", NOT_THERE, 4);
            }
        }
        fault(check, "call 0;", NUMBER, 5);
    }

    private static void everyAny(Check check) {
        check.term(3, "ANY: ROW { '|' ROW } ROW: { PIECE } PIECE: ATOM, perhaps * or + or ? ATOM: NUMBER | any | ( ANY )");
        String[] ways = {
            "", "|", "||", "1", "any", "1*", "1+", "1?", "any*any+any?", "()", "()*", "(|)+", "(1|any)?", "1|", "|1", "1 2|3 4|", "((1)*)*",
        };
        for (String way : ways) {
            right(check, "if way(" + way + ")then let;");
            fault(check, "if way(" + way, NOT_THERE, 7 + way.length());
            fault(check, "if way(" + way + "))then let;", NOT_THERE, 8 + way.length());
            fault(check, "if way(" + way + "|*)then let;", NOT_THERE, 8 + way.length());
            fault(check, "if way(" + way + "|1**)then let;", NOT_THERE, 10 + way.length());
            fault(check, "if way(" + way + "|1?+)then let;", NOT_THERE, 10 + way.length());
            fault(check, "if way(" + way + "|(1+)then let;", NOT_THERE, 12 + way.length());
        }
        fault(check, "if way then let;", NOT_THERE, 7);
        fault(check, "if way 1 then let;", NOT_THERE, 7);
        fault(check, "if way[1]then let;", NOT_THERE, 6);
        fault(check, "if way(1,2)then let;", NOT_THERE, 8);
        fault(check, "if way(1.2)then let;", NOT_THERE, 8);
        for (String word : WORDS.split(" ")) {
            if (!word.equals("any")) {
                fault(check, "if way(1 " + word + ")then let;", NOT_THERE, 9);
            }
        }
    }

    /** A sign that can stand nowhere, and the end, at every place of a text with all that there is. */
    private static void tokensThatCannotStand(Check check) {
        check.term(3, "2 a TOKEN that cannot stand there;");
        String[] tokens = ("if not in 1 . 2 . 3 . 0 / 24 to 32 and way ( 1 any * | ( 2 + ) ? 3 ) and mark 1 and from 2 and tie kin and length < 3 "
            + "and wish = 4 and cost > 5 and origin 1 and right bad then let , bar , add 1 , drop 2 , wish 3 , cost 4 , more 5 ; let ;").split(" ");
        String before = "";
        for (String token : tokens) {
            fault(check, before + "#" + " " + token, NOT_THERE, before.length());
            fault(check, before + "foo " + token, NO_WORD, before.length());
            if (before.isEmpty() || before.endsWith("; ")) {
                right(check, before);
            } else {
                fault(check, before, NOT_THERE, before.length());
            }
            before += token + " ";
        }
        right(check, before);
    }

    // ---- faults

    private static void placesOfFaults(Check check) {
        check.term(3, "FAULTS, the first one that reading meets, at a TOKEN's first byte (the text's length at its end):");
        fault(check, "   foo", NO_WORD, 3);
        fault(check, "\n\nlet ; foo ; bar", NO_WORD, 8);
        fault(check, "add   123456", NUMBER, 6);
        fault(check, "add 1", NOT_THERE, 5);
        fault(check, "add 1   ", NOT_THERE, 8);
        fault(check, "add 1\n\n\n", NOT_THERE, 8);
        fault(check, "if way(" + " ".repeat(993), NOT_THERE, 1000);
        fault(check, "let;" + " ".repeat(995) + ")", NOT_THERE, 999);
    }

    private static void firstFault(Check check) {
        check.term(3, "FAULTS, the first one that reading meets,");
        fault(check, "add 65536; foo", NUMBER, 4);
        fault(check, "let let foo", NOT_THERE, 4);
        fault(check, "foo 1234567890 )", NO_WORD, 0);
        fault(check, "if mark 65536 and tie foo then more 10;", NUMBER, 8);
        fault(check, "if in 256.0.0.1/33 then let;", NUMBER, 6);
        fault(check, "if in 10.0.0.1/31 to 99 then let;", NUMBER, 15);
        fault(check, "let;".repeat(30) + "let;foo", TOO_MANY, 120);
    }

    private static void edge(Check check, String before, long last, String behind) {
        right(check, before + last + behind);
        fault(check, before + (last + 1) + behind, NUMBER, before.length());
        fault(check, before + 999999999 + behind, NUMBER, before.length());
        right(check, before + 0 + behind);
    }

    private static void numbersOfTests(Check check) {
        check.term(3, "3 a NUMBER not as told (");
        check.term(3, "mark, add, drop 0 .. 65535; from 0 .. 9; of a way, length, cost 0 .. 1000000; wish 0 .. 1000; origin 0 .. 2;");
        edge(check, "if mark ", 65535, " then let;");
        edge(check, "if from ", 9, " then let;");
        edge(check, "if way(", 1000000, ")then let;");
        edge(check, "if way(any (", 1000000, "|7)*)then let;");
        edge(check, "if origin ", 2, " then let;");
        for (char sign : new char[] {'<', '=', '>'}) {
            edge(check, "if length" + sign, 1000000, " then let;");
            edge(check, "if cost" + sign, 1000000, " then let;");
            edge(check, "if wish" + sign, 1000, " then let;");
        }
    }

    private static void numbersOfIn(Check check) {
        check.term(3, "in: 0 .. 255, LENGTH 0 .. 32, to LENGTH .. 32;");
        for (int i = 0; i < 4; i++) {
            String before = "if in " + "0.".repeat(i);
            String behind = ".0".repeat(3 - i) + "/32 then let;";
            edge(check, before, 255, behind);
        }
        edge(check, "if in 0.0.0.0/", 32, " then let;");
        edge(check, "if in 0.0.0.0/0 to ", 32, " then let;");
        right(check, "if in 10.0.0.0/8 to 8 then let;");
        fault(check, "if in 10.0.0.0/8 to 7 then let;", NUMBER, 20);
        fault(check, "if in 10.0.0.0/8 to 33 then let;", NUMBER, 20);
        right(check, "if in 10.0.0.0/32 to 32 then let;");
        fault(check, "if in 10.0.0.0/32 to 31 then let;", NUMBER, 21);
        check.term(3, "or, at the NUMBER behind /, an address with bits behind the LENGTH;");
        for (int length = 0; length <= 31; length++) {
            int bit = 1 << 31 - length;
            String address = (bit >>> 24) + "." + (bit >> 16 & 255) + "." + (bit >> 8 & 255) + "." + (bit & 255);
            String text = "if in " + address + "/";
            fault(check, text + length + " then let;", NUMBER, text.length());
            right(check, text + (length + 1) + " then let;");
        }
        fault(check, "if in 0.0.0.1/0 to 99 then let;", NUMBER, 14);
        right(check, "if in 255.255.255.255/32 then let;");
        fault(check, "if in 255.255.255.255/33 then let;", NUMBER, 22);
    }

    private static void numbersOfActs(Check check) {
        check.term(3, "mark, add, drop 0 .. 65535;");
        edge(check, "add ", 65535, ";");
        edge(check, "drop ", 65535, ";");
        check.term(3, "of a way, length, cost 0 .. 1000000; wish 0 .. 1000;");
        edge(check, "wish ", 1000, ";");
        edge(check, "cost ", 1000000, ";");
        check.term(3, "more 1 .. 9;");
        right(check, "more 1;");
        right(check, "more 9;");
        fault(check, "more 0;", NUMBER, 5);
        fault(check, "more 10;", NUMBER, 5);
        fault(check, "more 000000000;", NUMBER, 5);
    }

    private static void numberOfACall(Check check) {
        check.term(3, "call: a POLICY that there is),");
        DomainHouse house = new DomainHouse();
        for (int i = 0; i < 12; i++) {
            check.due("itself, not there yet", Check.policy(house, "call " + i + ";"), -15);
            check.due("fault", house.fault(), NUMBER);
            check.due("the latest one", Check.policy(house, i == 0 ? "let;" : "call " + (i - 1) + ";"), i);
        }
        check.due("the twelfth can be called", Check.policy(house, "call 11;"), Check.FULL);
        check.due("a thirteenth cannot", Check.policy(house, "call 12;"), -15);
        check.due("fault", house.fault(), NUMBER);
        check.due("nor the greatest number", Check.policy(house, "call 999999999;"), -15);
    }

    private static void thirtyRows(Check check) {
        check.term(3, "4 the 31st row (at its first TOKEN),");
        right(check, "let;".repeat(29));
        right(check, "let;".repeat(30));
        right(check, "let;".repeat(30) + " \n ");
        fault(check, "let;".repeat(31), TOO_MANY, 120);
        fault(check, "let;".repeat(30) + "   if mark 1 then let;", TOO_MANY, 123);
        fault(check, "let;".repeat(30) + " cost", TOO_MANY, 121);
        fault(check, "let;".repeat(30) + "if foo", TOO_MANY, 120);
    }

    private static void fortyPlaces(Check check) {
        check.term(3, "the 41st NUMBER or any in ways of the text,");
        right(check, "if way(" + "1 ".repeat(40) + ")then let;");
        right(check, "if way(" + "any ".repeat(40) + ")then let;");
        fault(check, "if way(" + "1 ".repeat(41) + ")then let;", TOO_MANY, 87);
        fault(check, "if way(" + "any ".repeat(41) + ")then let;", TOO_MANY, 167);
        fault(check, "if way(" + "1 ".repeat(40) + "any)then let;", TOO_MANY, 87);
        String twenty = "if way(" + "1 ".repeat(20) + ")then let;";
        right(check, twenty + twenty);
        fault(check, twenty + twenty + "if way(1)then let;", TOO_MANY, 2 * twenty.length() + 7);
        right(check, twenty + twenty + "if way(()|()*)and mark 5 then add 7;");
        fault(check, "if way(" + "(1|2)*".repeat(20) + "3)then let;", TOO_MANY, 127);
        right(check, "if way(" + "1 ".repeat(40) + ")then add 1,add 2;if in 1.2.3.4/32 and cost>5 then let;");
    }

    private static void sixBrackets(Check check) {
        check.term(3, "a ( of a way that lies within 6 others of it (the way's own counts).");
        right(check, "if way((((((1))))))then let;");
        fault(check, "if way(((((((1)))))))then let;", TOO_MANY, 12);
        fault(check, "if way(((((((", TOO_MANY, 12);
        right(check, "if way((((((1)(2)|(3)))))) then let;");
        right(check, "if way(()()()()()()()())then let;");
        right(check, "if way((((((1))))))and way((((((2))))))then let;");
        fault(check, "if way((((((1)))))(((((((2)))))))then let;", TOO_MANY, 23);
        fault(check, "if way((((((())))))) then let;", TOO_MANY, 12);
    }

    /** What is counted is counted anew in each text of a house. */
    private static void eachTextByItself(Check check) {
        check.term(3, "the 41st NUMBER or any in ways of the text,");
        DomainHouse house = new DomainHouse();
        String forty = "if way(" + "1 ".repeat(40) + ")then let;";
        check.due("40", Check.policy(house, forty), 0);
        check.due("40 again", Check.policy(house, forty), 1);
        check.due("41", Check.policy(house, "if way(1)then let;" + forty), -10 - 18 - 85);
        check.due("40 behind a FAULT", Check.policy(house, forty), 2);
        check.term(3, "4 the 31st row (at its first TOKEN),");
        check.due("30 rows", Check.policy(house, "let;".repeat(30)), 3);
        check.due("30 rows again", Check.policy(house, "let;".repeat(30)), 4);
        check.due("31 rows", Check.policy(house, "let;".repeat(31)), -130);
        check.due("30 rows behind a FAULT", Check.policy(house, "let;".repeat(30)), 5);
        check.term(3, "a ( of a way that lies within 6 others of it (the way's own counts).");
        check.due("six deep", Check.policy(house, "if way((((((1))))))then let;"), 6);
        check.due("six deep behind a FAULT in the midst", Check.policy(house, "if way((((((#"), -22);
        check.due("six deep again", Check.policy(house, "if way((((((1))))))then let;"), 7);
    }

    private static void leastOfOneToken(Check check) {
        check.term(3, "(Of one TOKEN the least.)");
        String thirty = "let;".repeat(30);
        fault(check, thirty + "foo;", NO_WORD, 120);
        fault(check, thirty + "1234567890", NO_WORD, 120);
        fault(check, thirty + ";", NOT_THERE, 120);
        fault(check, thirty + "then", NOT_THERE, 120);
        fault(check, thirty + "7", NOT_THERE, 120);
        String forty = "if way(" + "1 ".repeat(40);
        fault(check, forty + "1000001)then let;", NUMBER, 87);
        fault(check, forty + "1000000)then let;", TOO_MANY, 87);
        fault(check, forty + "1234567890)then let;", NO_WORD, 87);
        fault(check, forty + "foo)then let;", NO_WORD, 87);
        fault(check, forty + "let)then let;", NOT_THERE, 87);
        fault(check, "add foo;", NO_WORD, 4);
        fault(check, "let foo;", NO_WORD, 4);
        fault(check, "if foo then let;", NO_WORD, 3);
        fault(check, "if way(foo)then let;", NO_WORD, 7);
        fault(check, "if in 1.2.3.4/1234567890 then let;", NO_WORD, 14);
    }

    private static void longTexts(Check check) {
        check.promise(17, "The TAPE, which is empty then, is a POLICY: its number; -10 less the place of its FAULT.");
        right(check, "let" + ",let".repeat(249) + ";");
        right(check, "if " + "way()and ".repeat(109) + "way()then let;");
        right(check, "if way(" + "|".repeat(983) + ")then let;");
        right(check, "if way(" + "()".repeat(491) + ")then let;");
        String tests = "if from 1" + " and from 1".repeat(88);
        right(check, tests + " then let;");
        fault(check, tests + " then let", NOT_THERE, tests.length() + 9);
        fault(check, ")" + " ".repeat(999), NOT_THERE, 0);
        fault(check, ")".repeat(1000), NOT_THERE, 0);
        fault(check, "let;".repeat(3) + "#".repeat(988), NOT_THERE, 12);
        fault(check, "1".repeat(1000), NO_WORD, 0);
        fault(check, " ".repeat(999) + ")", NOT_THERE, 999);
    }

    private static void twelvePolicies(Check check) {
        check.term(3, "POLICIES (12) are texts.");
        check.promise(17, "FULL (a FAULT goes ahead).");
        DomainHouse house = new DomainHouse();
        for (int i = 0; i < 12; i++) {
            check.due("policy", Check.policy(house, "let;"), i);
        }
        check.due("the thirteenth", Check.policy(house, "let;"), Check.FULL);
        check.due("no fault", house.fault(), 0);
        check.due("an empty one, too", Check.policy(house, ""), Check.FULL);
        check.due("a FAULT", Check.policy(house, "let"), -13);
        check.due("its kind", house.fault(), NOT_THERE);
        check.due("a FAULT of a NUMBER", Check.policy(house, "more 0;"), -15);
        check.due("twelve", house.count(4), 12);
    }

    private static void policyEmptiesTheTape(Check check) {
        check.promise(17, "The TAPE, which is empty then,");
        DomainHouse house = new DomainHouse();
        Check.policy(house, "let;");
        check.due("by a policy", house.count(6), 0);
        Check.policy(house, "foo");
        check.due("by a FAULT", house.count(6), 0);
        for (int i = 1; i < 12; i++) {
            Check.policy(house, "let;");
        }
        check.due("FULL", Check.policy(house, "let;"), Check.FULL);
        check.due("by FULL", house.count(6), 0);
        check.due("so the next text is empty, and without a FAULT", house.policy(), Check.FULL);
    }

    private static void faultOfTheLatest(Check check) {
        check.promise(18, "The FAULT of the latest policy(); 0: none.");
        DomainHouse house = new DomainHouse();
        check.due("no policy() yet", house.fault(), 0);
        String[] texts = {"foo", "let", "more 0;", "let;".repeat(31)};
        for (int i = 0; i < texts.length; i++) {
            Check.policy(house, texts[i]);
            check.due("fault", house.fault(), i + 1);
            check.due("asked again", house.fault(), i + 1);
        }
        house.message();
        check.due("message() is no policy()", house.fault(), TOO_MANY);
        Check.policy(house, "let;");
        check.due("none", house.fault(), 0);
    }

    // ---- the route in hand

    private static void routeInHand(Check check) {
        check.promise(19, "The ROUTE IN HAND: of a PREFIX, with THE WAY IN HAND, and no MARKS: 0.");
        DomainHouse house = Scene.chain(2);
        Check.policy(house, "add 3;");
        check.due("an empty WAY", house.route(0, 0, 0, 0), 0);
        house.judge(0, 0, 1);
        check.due("a MARK", house.hand(5), 1);
        Check.walk(house, 9, 8);
        check.due("anew", house.route(0, 0, 0, 0), 0);
        check.due("no MARKS", house.hand(5), 0);
        check.due("none", house.hand(100), Check.NONE);
        check.due("two", house.hand(4), 2);
        house.walk(7);
        check.due("the route's WAY stays", house.hand(4), 2);
    }

    private static void wrongRoutes(Check check) {
        check.promise(19, "BAD: no such PREFIX; WISH, ORIGIN, COST.");
        DomainHouse house = Scene.chain(2);
        int[][] wrong = {
            {-1, 0, 0, 0}, {1, 0, 0, 0}, {LEAST, 0, 0, 0}, {MOST, 0, 0, 0}, {0, -1, 0, 0}, {0, 1001, 0, 0}, {0, LEAST, 0, 0},
            {0, MOST, 0, 0}, {0, 0, -1, 0}, {0, 0, 3, 0}, {0, 0, LEAST, 0}, {0, 0, MOST, 0}, {0, 0, 0, -1}, {0, 0, 0, 1000001},
            {0, 0, 0, LEAST}, {0, 0, 0, MOST},
        };
        for (int[] one : wrong) {
            check.due("route " + java.util.Arrays.toString(one), house.route(one[0], one[1], one[2], one[3]), Check.BAD);
        }
        check.due("there is none", house.hand(0), Check.NONE);
        house.route(0, 7, 1, 9);
        for (int[] one : wrong) {
            house.route(one[0], one[1], one[2], one[3]);
        }
        check.due("the one that was stays", house.hand(1), 7);
        check.due("the one that was stays", house.hand(3), 9);
    }

    private static void judged(Check check) {
        check.promise(20, "A POLICY is gone through by a DOMAIN for the ROUTE IN HAND (which is changed by that) and a partner: "
            + "1 let, 0 barred (the ROUTE is as the ACTS left it).");
        DomainHouse house = Scene.chain(2);
        Check.policy(house, "wish 1000,add 1;");
        Check.policy(house, "if mark 1 then cost 1000000,bar,cost 3;");
        house.route(0, 0, 0, 0);
        check.due("let", house.judge(0, 0, 1), 1);
        check.due("changed", house.hand(1), 1000);
        check.due("barred, as the first one left it", house.judge(1, 1, 0), 0);
        check.due("as the ACTS left it", house.hand(3), 1000000);
        house.raise(0, false);
        check.due("a TIE that is not UP", house.judge(0, 0, 1), 1);
    }

    private static void wrongJudges(Check check) {
        check.promise(20, "BAD: no such POLICY; no TIE (UP or not) between two such DOMAINS.");
        DomainHouse house = Scene.chain(3);
        Check.policy(house, "wish 1000;");
        house.route(0, 7, 0, 0);
        int[][] wrong = {
            {-1, 0, 1}, {1, 0, 1}, {LEAST, 0, 1}, {MOST, 0, 1}, {Check.NONE, 0, 1}, {0, 0, 2}, {0, 2, 0}, {0, 0, 0}, {0, 1, 1},
            {0, -1, 0}, {0, 0, -1}, {0, 3, 2}, {0, 2, 3}, {0, LEAST, 0}, {0, 0, MOST},
        };
        for (int[] one : wrong) {
            check.due("judge " + java.util.Arrays.toString(one), house.judge(one[0], one[1], one[2]), Check.BAD);
        }
        check.due("it is not changed", house.hand(1), 7);
        check.due("the last ones", house.judge(0, 2, 1), 1);
    }

    private static void noRouteToJudge(Check check) {
        check.promise(20, "NO: there is no ROUTE IN HAND.");
        DomainHouse house = Scene.chain(2);
        Check.policy(house, "let;");
        check.due("none", house.judge(0, 0, 1), Check.NO);
        check.due("BAD stands ahead of it", house.judge(1, 0, 1), Check.BAD);
        check.due("BAD stands ahead of it", house.judge(0, 0, 0), Check.BAD);
        check.due("picked: nothing, so there is still none", house.picked(0, 0), Check.NONE);
        check.due("none", house.judge(0, 0, 1), Check.NO);
        house.announce(0, 0, 2);
        house.picked(0, 0);
        check.due("what was picked", house.judge(0, 0, 1), 1);
    }

    private static void asked(Check check) {
        check.promise(21, "Of the ROUTE IN HAND: 0 its PREFIX, 1 WISH, 2 ORIGIN, 3 COST, 4 how many numbers the WAY has, 5 how many MARKS, "
            + "10 + i the i-th number of the WAY, 100 + i the i-th MARK (the least first).");
        DomainHouse house = Scene.chain(2);
        house.prefix(0, 0);
        Check.policy(house, "add 65535,add 0,add 300,add 2,add 1,add 4,add 9,add 8;");
        Check.walk(house, 9, 8, 7, 6, 5, 4, 3, 2, 1, 0, 9, 8, 7, 6, 5, 4, 3, 2, 1, 0);
        house.route(1, 11, 2, 33);
        house.judge(0, 0, 1);
        int[] want = {1, 11, 2, 33, 20, 8};
        for (int what = 0; what < want.length; what++) {
            check.due("hand " + what, house.hand(what), want[what]);
        }
        check.dueRow("marks", i -> house.hand(100 + i), 0, 1, 2, 4, 8, 9, 300, 65535);
        for (int i = 0; i < 20; i++) {
            check.due("number " + i, house.hand(10 + i), 9 - i % 10);
        }
        check.promise(21, "NONE: no ROUTE, none such.");
        int[] none = {-1, 6, 7, 8, 9, 30, 31, 99, 108, 109, 1000, LEAST, MOST, Check.NONE};
        for (int what : none) {
            check.due("hand " + what, house.hand(what), Check.NONE);
        }
        house.walk(-1);
        house.route(1, 0, 0, 0);
        check.due("an empty WAY has no first number", house.hand(10), Check.NONE);
        check.due("no MARKS, no first one", house.hand(100), Check.NONE);
        DomainHouse other = Scene.chain(2);
        for (int what = 0; what < 128; what++) {
            check.due("no ROUTE, hand " + what, other.hand(what), Check.NONE);
        }
    }
}
