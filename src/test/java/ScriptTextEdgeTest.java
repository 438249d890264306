import java.math.BigInteger;

/** The edges of the texts of promise 5 (runScript), and of the errors that 6 and 7 tell: each number, name and byte. */
public final class ScriptTextEdgeTest {
    private static final int NONE = ProphecyShop.NONE;
    private static final int SYNTAX = ProphecyShop.SYNTAX;
    private static final int RANGE = ProphecyShop.OUT_OF_RANGE;
    private static final int NAME = ProphecyShop.WRONG_NAME;
    private static final int MANY = ProphecyShop.TOO_MANY;
    private static final String[] WORDS = {"sell", "happen", "ask", "pass", "repeat"};

    public static void main(String[] args) {
        numbers();
        leastAndMostOfEachNumber();
        names();
        namesOfAnotherSetup();
        lastNames();
        cutOff();
        textsOfAllLengths();
        eachByte();
        thirtyCommands();
        oneCommandMore();
        brackets();
        oneBracketMore();
        smallestCode();
        Checks.end("ScriptTextEdgeTest");
    }

    private static ProphecyShop good(String text, int executed) {
        ProphecyShop s = new ProphecyShop();
        Checks.put(s, text);
        Checks.due("5: script " + text, s.runScript(), executed);
        Checks.due("6: no error in " + text, s.errorCode(), 0);
        Checks.due("7: no error position in " + text, s.errorPosition(), NONE);
        Checks.due("5: the text is emptied", s.truncate(0), 0);
        Checks.due("5: one change, " + text, s.undoCount(), 1);
        return s;
    }

    private static void error(int code, int position, String text) {
        ProphecyShop s = new ProphecyShop();
        Checks.put(s, text);
        Checks.due("5: script " + text, s.runScript(), NONE);
        Checks.due("6: error code of " + text, s.errorCode(), code);
        Checks.due("7: error position of " + text, s.errorPosition(), position);
        Checks.due("5: the text is emptied", s.truncate(0), 0);
        Checks.due("5: not a change, " + text, s.undoCount(), 0);
        Checks.due("5: nothing is executed, " + text, s.day() + s.prophecyCount() + s.timesHappened(0, 0), 0);
    }

    private static void errorAtEnd(int code, String before, String rest) {
        error(code, before.length(), before + rest);
    }

    // ---- numbers

    /** The script before and after each kind of number, with the least and the greatest value it may have. */
    private static void numbers() {
        String[] sales = {"sell ben plain rain inn ", "sell ben vague rain ", "sell ben never rain inn "};
        for (String sale : sales) {
            number(sale, " 1 1;", 0, 99, 1, 1);
            number(sale + "0 ", " 1;", 1, 60, 1, 1);
            // The purse holds 300 coins.
            number(sale + "0 1 ", ";", 1, 999, 1, 0);
        }
        number("ask ", ";", 0, 23, 0, 0);
        number("pass ", ";", 1, 60, 1, 1);
        number("repeat ", "(pass 1;);", 0, 20, 0, 20);
    }

    /** The script with the least number executes so many commands, and with the greatest one so many. */
    private static void number(String before, String after, int least, int most, int fewest, int many) {
        int at = before.length();
        String[] leasts = {"" + least, "0" + least, "0".repeat(600) + least};
        for (String value : leasts) {
            good(before + value + after, fewest);
        }
        String[] mosts = {"" + most, "0" + most, "0".repeat(600) + most};
        for (String value : mosts) {
            good(before + value + after, many);
        }
        if (least > 0) {
            error(RANGE, at, before + (least - 1) + after);
            error(RANGE, at, before + "0".repeat(600) + after);
        }
        error(RANGE, at, before + (most + 1) + after);
        error(RANGE, at, before + (most + 2) + after);
        error(RANGE, at, before + most + "0" + after);
        error(RANGE, at, before + "0".repeat(600) + (most + 1) + after);
        error(RANGE, at, before + "9".repeat(600) + after);
        // Numbers that would be right if they wrapped around.
        int[] bits = {8, 16, 31, 32, 33, 63, 64, 65, 128};
        for (int bit : bits) {
            BigInteger value = BigInteger.ONE.shiftLeft(bit).add(BigInteger.valueOf(least));
            if (value.compareTo(BigInteger.valueOf(most)) > 0) {
                error(RANGE, at, before + value + after);
                error(RANGE, at, before + value.add(BigInteger.ONE) + after);
            }
        }
        String[] others = {"-1", "+1", ".5", "x", "abcdefg", ";", "(", ")", "A", "/", ":", "\t", "\u00b2"};
        for (String other : others) {
            error(SYNTAX, at, before + other + after);
        }
        error(SYNTAX, at, before);
        error(SYNTAX, at + 2, before + " \n");
        error(SYNTAX, at + 1, before + "1." + after);
        error(RANGE, at, before + (most + 1) + "!");
    }

    private static void leastAndMostOfEachNumber() {
        ProphecyShop s = good("sell ben plain rain inn 0 1 1; sell ben vague war 99 60 100;"
            + "sell ben never rain pass 099 060 00100; pass 60; ask 0; ask 2; pass 1;", 7);
        Checks.due("5: days", s.day(), 61);
        Checks.due("5: least delay", s.firstDay(0), 0);
        Checks.due("5: least length", s.lastDay(0), 0);
        Checks.due("5: least price", s.refundOf(0), 1);
        for (int p = 1; p <= 2; p++) {
            Checks.due("5: longest delay", s.firstDay(p), 99);
            Checks.due("5: longest length", s.lastDay(p), 158);
        }
        Checks.due("5: half of the price of a vague one", s.refundOf(1), 50);
        Checks.due("5: the price of a denial", s.refundOf(2), 100);
        ProphecyShop rich = Checks.loaded("shop 0 1 1 100 100;event a;place a;customer a 9999 1;");
        StringBuilder sales = new StringBuilder();
        for (int p = 0; p < 24; p++) {
            sales.append("sell a vague a 0 1 ").append(p < 9 ? 999 : 1).append(';');
        }
        Checks.due("5: 24 sales", Checks.script(rich, sales.toString()), 24);
        Checks.due("5: highest price", rich.refundOf(8), 999);
        Checks.due("5: ask for the first and the last", Checks.script(rich, "ask 23; ask 0; ask 22; ask 1;"), 4);
        Checks.due("29: the last prophecy", rich.placeInQueue(23), 0);
        Checks.due("29: the first prophecy", rich.placeInQueue(0), 1);
    }

    // ---- names

    private static void names() {
        name("sell ", " plain rain inn 0 1 1;", new String[] {"ada", "ben", "cai"},
            new String[] {"rain", "inn", "ad", "adam", "a"});
        name("sell ben plain ", " inn 0 1 1;", new String[] {"rain", "war"},
            new String[] {"inn", "ada", "rai", "rains", "ain"});
        name("sell ben vague ", " 0 1 1;", new String[] {"rain", "war"}, new String[] {"mill", "wa", "wars", "raw"});
        name("sell ben never ", " inn 0 1 1;", new String[] {"rain", "war"},
            new String[] {"pass", "ben", "r", "vague"});
        name("sell ben plain rain ", " 0 1 1;", new String[] {"inn", "mill", "pass"},
            new String[] {"rain", "in", "inns", "nn"});
        name("sell ben never rain ", " 0 1 1;", new String[] {"inn", "mill", "pass"},
            new String[] {"war", "cai", "mil", "pas"});
        name("happen ", " inn;", new String[] {"rain", "war"}, new String[] {"inn", "ada", "happen", "rainy"});
        name("happen rain ", ";", new String[] {"inn", "mill", "pass"},
            new String[] {"rain", "war", "ada", "ill", "abcdef"});
    }

    private static void name(String before, String after, String[] right, String[] wrong) {
        for (String name : right) {
            good(before + name + after, 1);
            // Six letters at most are a name, known or not; more are out of range.
            errorAtEnd(RANGE, before, name + "abcdef" + after);
            errorAtEnd(RANGE, before, name + name + name + "!");
        }
        for (String name : wrong) {
            errorAtEnd(NAME, before, name + after);
            errorAtEnd(NAME, before, name);
        }
        errorAtEnd(NAME, before, "zzzzzz" + after);
        errorAtEnd(RANGE, before, "zzzzzzz" + after);
        errorAtEnd(RANGE, before, "z".repeat(700));
        String[] none = {"0", "7", ";", "(", ")", "A", "`", "{", "-", "\u00e4"};
        for (String other : none) {
            errorAtEnd(SYNTAX, before, other + after);
        }
        errorAtEnd(SYNTAX, before, "");
        errorAtEnd(SYNTAX, before + " \n", "");
    }

    /** Names of one letter and of six, names that are words of the grammar, and a setup without customers. */
    private static void namesOfAnotherSetup() {
        ProphecyShop s = Checks.loaded("shop 1 1 1 1 1;event a;event vague;event abcdef;place a;place plain;"
            + "place abcdef;customer a 9 1;customer sell 9 1;customer abcdef 9 1;");
        Checks.due("5: names", Checks.script(s, "sell a plain a a 0 1 1; sell sell vague vague 0 1 1;"
            + "sell abcdef never abcdef abcdef 0 1 1; happen vague plain; happen abcdef abcdef; happen a plain;"), 6);
        Checks.due("19: six letters", s.customerOf(2), 2);
        Checks.due("20: six letters", s.eventOf(2), 2);
        Checks.due("21: six letters", s.placeOf(2), 2);
        Checks.due("20: a word of the grammar", s.eventOf(1), 1);
        Checks.due("15: the first happening", s.timesHappened(1, 1), 1);
        Checks.due("15: the second happening", s.timesHappened(2, 2), 1);
        Checks.due("15: the third happening", s.timesHappened(0, 1), 1);
        ProphecyShop nobody = Checks.loaded("shop 1 1 1 1 1;event a;place a;");
        Checks.due("5: no customers", Checks.script(nobody, "happen a a; sell a vague a 0 1 1;"), NONE);
        Checks.due("6: no such name", nobody.errorCode(), NAME);
        Checks.due("7: the name", nobody.errorPosition(), 17);
        Checks.due("5: names of an older setup", Checks.script(nobody, "happen rain inn;"), NONE);
        Checks.due("6: no such name", nobody.errorCode(), NAME);
    }

    /** The last name of each kind, where there are more of this kind than of the others. */
    private static void lastNames() {
        String customers = "customer a 9 1;customer b 9 1;customer c 9 1;customer d 9 1;customer e 9 1;customer f 9 1;"
            + "customer g 9 1;customer h 9 1;";
        String events = "event a;event b;event c;event d;event e;event f;";
        String places = "place a;place b;place c;place d;place e;place f;";
        lastNames("event a;place a;" + customers, "h", "a", "a");
        lastNames(events + "place a;customer a 9 1;", "a", "f", "a");
        lastNames("event a;" + places + "customer a 9 1;", "a", "a", "f");
        lastNames(events + places + customers, "h", "f", "f");
    }

    private static void lastNames(String lines, String customer, String event, String place) {
        ProphecyShop s = Checks.loaded("shop 1 1 1 1 1;" + lines);
        String sell = "sell " + customer;
        String pair = " " + event + " " + place;
        Checks.due("5: the last names of " + lines, Checks.script(s, sell + " plain" + pair + " 0 1 1;" + sell + " vague "
            + event + " 0 1 1;" + sell + " never" + pair + " 0 1 1; happen" + pair + "; ask 2;"), 5);
        for (int p = 0; p < 3; p++) {
            Checks.due("19: the last customer", s.customerOf(p), customer.charAt(0) - 'a');
            Checks.due("20: the last event", s.eventOf(p), event.charAt(0) - 'a');
            Checks.due("21: the last place", s.placeOf(p), p == 1 ? NONE : place.charAt(0) - 'a');
            Checks.due("25: decided", s.stateOf(p), p == 2 ? ProphecyShop.FAILED : ProphecyShop.FULFILLED);
        }
    }

    // ---- whole texts

    private static final String[] TOKENS = {"sell", "ada", "plain", "rain", "inn", "0", "1", "2", ";", "sell", "ben",
        "vague", "war", "0", "1", "2", ";", "sell", "cai", "never", "war", "mill", "0", "1", "2", ";", "happen", "rain",
        "pass", ";", "ask", "0", ";", "pass", "1", ";", "repeat", "2", "(", "pass", "1", ";", "repeat", "1", "(", ")",
        ";",
        "pass", "1", ";", ")", ";", "pass", "1", ";"};

    /** The error position is the length of the text if the text ends too early. */
    private static void cutOff() {
        String[] blanks = {" ", "\n", "\n \n "};
        for (String blank : blanks) {
            StringBuilder text = new StringBuilder();
            int depth = 0;
            int executed = 0;
            for (String token : TOKENS) {
                text.append(token).append(blank);
                depth += token.equals("(") ? 1 : token.equals(")") ? -1 : 0;
                executed += token.equals(";") && depth == 0 ? 1 : 0;
                if (token.equals(";") && depth == 0) {
                    // The two rounds of the repeat, which is not counted itself.
                    int more = text.indexOf("repeat") < 0 ? 0 : 3;
                    good(text.toString(), executed + more);
                } else {
                    error(SYNTAX, text.length(), text.toString());
                }
            }
        }
        errorAtEnd(SYNTAX, "", "sel");
        errorAtEnd(SYNTAX, "pass 1;", "pas");
        errorAtEnd(SYNTAX, "pass 1; pass", "");
        errorAtEnd(SYNTAX, "sell ben ", "vagu");
        errorAtEnd(NAME, "sell ben vague ", "rai");
        errorAtEnd(SYNTAX, "repeat 1(", "pas");
    }

    private static void textsOfAllLengths() {
        int[] lengths = {7, 8, 799, 800};
        for (int length : lengths) {
            String blanks = " ".repeat(length - 7);
            good("pass 1;" + blanks, 1);
            good(blanks + "pass 1;", 1);
            good("pass" + blanks.replace(' ', '\n') + " 1;", 1);
            good("pass " + "0".repeat(length - 7) + "1;", 1);
            errorAtEnd(SYNTAX, blanks + "pass 1 ", "");
            errorAtEnd(SYNTAX, blanks + "pass 1", "!");
        }
        good("", 0);
        good(" ".repeat(800), 0);
        good("\n".repeat(799), 0);
        errorAtEnd(SYNTAX, " ".repeat(799), "!");
        errorAtEnd(SYNTAX, " ".repeat(799), ")");
        error(SYNTAX, 0, ";".repeat(800));
        error(SYNTAX, 0, "p".repeat(800));
        error(SYNTAX, 0, "(".repeat(800));
        error(RANGE, 5, "pass " + "7".repeat(795));
        error(SYNTAX, 800, "pass " + "0".repeat(794) + "7");
        error(RANGE, 7, "happen " + "r".repeat(793));
    }

    /** Spaces and line feeds separate tokens; what is no letter, digit or sign of its own is invalid. */
    private static void eachByte() {
        for (int value = 1; value < 256; value++) {
            char sign = (char) value;
            boolean blank = value == 32 || value == 10;
            boolean digit = value >= '0' && value <= '9';
            boolean letter = value >= 'a' && value <= 'z';
            outcome(blank ? 0 : SYNTAX, 0, sign + "pass 1;");
            outcome(blank ? 0 : SYNTAX, 7, "pass 1;" + sign);
            outcome(blank ? 0 : SYNTAX, sign == ')' ? 11 : 10, "repeat 1 (" + sign + "pass 1;);");
            // A letter makes one long word of the two names.
            outcome(blank ? 0 : letter ? RANGE : SYNTAX, letter ? 7 : 11, "happen rain" + sign + "inn;");
            // A digit makes another number, which is too large from 61 on.
            boolean fits = digit && sign < '6';
            outcome(blank || fits ? 0 : digit ? RANGE : SYNTAX, letter ? 0 : 4, "pass" + sign + "1;");
        }
    }

    private static void outcome(int code, int position, String text) {
        if (code == 0) {
            good(text, 1);
        } else {
            error(code, position, text);
        }
    }

    // ---- thirty commands, two brackets, forty executions

    /** The word of a 31st command is an error, those in brackets and repeat included. */
    private static void thirtyCommands() {
        good("pass 1;".repeat(29), 29);
        good("pass 1;".repeat(30), 30);
        errorAtEnd(MANY, "pass 1;".repeat(30), "pass 1;");
        good("pass 1;".repeat(29) + "repeat 2();", 29);
        good("pass 1;".repeat(28) + "repeat 2(pass 1;);", 30);
        errorAtEnd(MANY, "pass 1;".repeat(29) + "repeat 2(", "pass 1;);");
        errorAtEnd(MANY, "repeat 1(repeat 1(" + "pass 1;".repeat(28), "pass 1;););");
        good("repeat 1(repeat 1(" + "pass 1;".repeat(28) + "););", 28);
        errorAtEnd(MANY, "repeat 1(repeat 1(" + "pass 1;".repeat(28) + ");", "pass 1;);");
        errorAtEnd(MANY, "repeat 1(repeat 1(" + "pass 1;".repeat(28) + "););", "pass 1;");
        // Commands that are never executed count as well.
        errorAtEnd(MANY, "repeat 0(" + "pass 1;".repeat(29) + ");", "pass 1;");
        errorAtEnd(MANY, "ask 5;" + "pass 1;".repeat(29), "pass 1;");
        good("repeat 0();".repeat(30), 0);
        errorAtEnd(MANY, "repeat 0();".repeat(30), "repeat 0();");
        good("happen rain inn;".repeat(30), 1);
        errorAtEnd(MANY, "happen rain inn;".repeat(30), "happen rain inn;");
        good("sell ben vague war 0 1 1;".repeat(30), 24);
        errorAtEnd(MANY, "sell ben vague war 0 1 1;".repeat(30), "sell ben vague war 0 1 1;");
        good("sell ben vague war 0 1 1;" + "ask 0;".repeat(29), 2);
        errorAtEnd(MANY, "sell ben vague war 0 1 1;" + "ask 0;".repeat(29), "ask 0;");
    }

    /** The error stands at the word of that command, whatever follows the word. */
    private static void oneCommandMore() {
        String full = "pass 1;".repeat(30);
        for (String word : WORDS) {
            errorAtEnd(MANY, full, word);
            errorAtEnd(MANY, full, word + ";");
            errorAtEnd(MANY, full, word + " 99 abcdefg!");
            errorAtEnd(MANY, full + " \n", word + " ");
            errorAtEnd(SYNTAX, full, word + "s");
            errorAtEnd(SYNTAX, full, word.substring(1));
            errorAtEnd(SYNTAX, full, ";" + word);
            errorAtEnd(SYNTAX, full, "1 " + word);
            errorAtEnd(SYNTAX, full, "(" + word);
            errorAtEnd(SYNTAX, full, ")" + word);
        }
        errorAtEnd(SYNTAX, full, "abcdefg");
        errorAtEnd(SYNTAX, full, "plain");
        errorAtEnd(SYNTAX, full, "shop");
        errorAtEnd(SYNTAX, full, "!");
    }

    /** Two brackets may be open at once, as often as there are commands. */
    private static void brackets() {
        good("repeat 1(pass 1;);", 1);
        good("repeat 1(repeat 1(pass 1;););", 1);
        good("repeat 2(repeat 2(pass 1;);repeat 2(pass 1;);pass 1;);repeat 2(repeat 2(pass 1;););", 14);
        good("repeat 1(" + "repeat 1();".repeat(29) + ");", 0);
        good("repeat 1(repeat 1(););".repeat(15), 0);
        good("repeat 2(repeat 3(););pass 1;", 1);
        errorAtEnd(MANY, "repeat 1(repeat 1(repeat 1", "(pass 1;););");
        errorAtEnd(MANY, "repeat 0(repeat 0(repeat 0", "();););");
        errorAtEnd(MANY, "repeat 1(repeat 1(pass 1;);repeat 1(pass 1;);repeat 1(repeat 1", "(");
        errorAtEnd(MANY, "repeat 1(repeat 1(););repeat 1(repeat 1(repeat 1 \n", "();););");
        errorAtEnd(SYNTAX, "pass 1;", ")");
        errorAtEnd(SYNTAX, "repeat 1(pass 1;);", ");");
        errorAtEnd(SYNTAX, "repeat 1(repeat 1(););", ");");
        errorAtEnd(SYNTAX, "repeat 1(repeat 1()", ")");
        errorAtEnd(SYNTAX, "repeat 1(pass 1;)", "pass 1;");
        errorAtEnd(SYNTAX, "repeat 1(pass 1", ")");
        errorAtEnd(SYNTAX, "repeat 1(repeat 1(pass 1;);", "");
        errorAtEnd(SYNTAX, "repeat 1(repeat 1(pass 1;)", "");
        errorAtEnd(SYNTAX, "repeat 1", ")");
        errorAtEnd(SYNTAX, "repeat 1", ";");
        errorAtEnd(SYNTAX, "repeat 1", "pass 1;");
        errorAtEnd(SYNTAX, "repeat ", "(pass 1;);");
        errorAtEnd(SYNTAX, "repeat 1(", "(pass 1;););");
        errorAtEnd(SYNTAX, "repeat 1(", ";);");
    }

    /** The third bracket is an error itself, whatever follows it. */
    private static void oneBracketMore() {
        String before = "repeat 1(repeat 1(repeat 1 ";
        String[] rests = {"(", "()", "()););", "(pass 1;););", "(!", "(;", "((", "(abcdefg"};
        for (String rest : rests) {
            errorAtEnd(MANY, before, rest);
        }
        errorAtEnd(SYNTAX, before, "");
        errorAtEnd(SYNTAX, before, ")");
        errorAtEnd(SYNTAX, before, ";(");
        errorAtEnd(SYNTAX, before, "1(");
        errorAtEnd(SYNTAX, before, "pass(");
        errorAtEnd(RANGE, "repeat 1(repeat 1(repeat ", "21(");
        errorAtEnd(SYNTAX, "repeat 1(repeat 1(repeat ", "(");
        errorAtEnd(SYNTAX, "repeat 1(repeat 1(", "(");
    }

    /** If several kinds of errors apply to a token, the smallest code is reported. */
    private static void smallestCode() {
        errorAtEnd(RANGE, "happen ", "weather seaside;");
        errorAtEnd(NAME, "happen ", "snow seaside;");
        errorAtEnd(RANGE, "happen rain ", "seaside 99");
        errorAtEnd(NAME, "pass 1; happen rain ", "sea; pass 61; !");
        errorAtEnd(RANGE, "pass 1; pass ", "61; happen rain sea; !");
        errorAtEnd(SYNTAX, "pass 1; ", "! pass 61; happen rain sea;");
        errorAtEnd(SYNTAX, "sell ada ", "abcdefg rain inn 0 1 1;");
        errorAtEnd(SYNTAX, "", "abcdefg 1;");
        errorAtEnd(SYNTAX, "pass 1 ", "abcdefg;");
        // The word of the 31st command comes before the third bracket.
        errorAtEnd(MANY, "pass 1;".repeat(28) + "repeat 1(repeat 1(", "repeat 1(");
        errorAtEnd(MANY, "pass 1;".repeat(27) + "repeat 1(repeat 1(repeat 1", "(");
        errorAtEnd(NAME, "pass 1;".repeat(29) + "happen rain ", "sea;pass 1;");
        errorAtEnd(RANGE, "pass 1;".repeat(29) + "pass ", "61;pass 1;");
    }
}
