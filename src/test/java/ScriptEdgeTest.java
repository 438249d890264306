import java.math.BigInteger;
import java.util.function.Supplier;

/** The edges of promise 5 (runScript), and of what 6 and 7 tell of its errors. */
public final class ScriptEdgeTest {
    private static final int NONE = ProphecyShop.NONE;
    private static final int SYNTAX = ProphecyShop.SYNTAX;
    private static final int RANGE = ProphecyShop.OUT_OF_RANGE;
    private static final int NAME = ProphecyShop.WRONG_NAME;
    private static final int MANY = ProphecyShop.TOO_MANY;
    private static final String[] WORDS = {"sell", "happen", "ask", "pass", "repeat"};

    public static void main(String[] args) {
        numbers();
        leastAndMostOfEachNumber();
        names();
        namesOfAnotherSetup();
        cutOff();
        textsOfAllLengths();
        eachByte();
        thirtyCommands();
        oneCommandMore();
        brackets();
        oneBracketMore();
        smallestCode();
        fortyCommands();
        repeatTimes();
        endsBeforeASale();
        endsBeforeAHappening();
        endsBeforeARequest();
        endsBeforeADay();
        endsAfterAnyCommand();
        emptyScripts();
        errorLeavesAll();
        errorsOneAfterAnother();
        oneChangeOfMany();
        Checks.end("ScriptEdgeTest");
    }

    private static ProphecyShop good(String text, int executed) {
        ProphecyShop s = new ProphecyShop();
        Checks.put(s, text);
        Checks.due("5: script " + text, s.runScript(), executed);
        Checks.due("6: no error in " + text, s.errorCode(), 0);
        Checks.due("7: no error position in " + text, s.errorPosition(), NONE);
        Checks.due("5: the text is emptied", s.truncate(0), 0);
        Checks.due("5: one change, " + text, s.undoCount(), 1);
        return s;
    }

    private static void error(int code, int position, String text) {
        ProphecyShop s = new ProphecyShop();
        Checks.put(s, text);
        Checks.due("5: script " + text, s.runScript(), NONE);
        Checks.due("6: error code of " + text, s.errorCode(), code);
        Checks.due("7: error position of " + text, s.errorPosition(), position);
        Checks.due("5: the text is emptied", s.truncate(0), 0);
        Checks.due("5: not a change, " + text, s.undoCount(), 0);
        Checks.due("5: nothing is executed, " + text, s.day() + s.prophecyCount() + s.timesHappened(0, 0), 0);
    }

    private static void errorAtEnd(int code, String before, String rest) {
        error(code, before.length(), before + rest);
    }

    // ---- numbers

    /** The script before and after each kind of number, with the least and the greatest value it may have. */
    private static void numbers() {
        String[] sales = {"sell ben plain rain inn ", "sell ben vague rain ", "sell ben never rain inn "};
        for (String sale : sales) {
            number(sale, " 1 1;", 0, 99, 1, 1);
            number(sale + "0 ", " 1;", 1, 60, 1, 1);
            // The purse holds 300 coins.
            number(sale + "0 1 ", ";", 1, 999, 1, 0);
        }
        number("ask ", ";", 0, 23, 0, 0);
        number("pass ", ";", 1, 60, 1, 1);
        number("repeat ", "(pass 1;);", 0, 20, 0, 20);
    }

    /** The script with the least number executes so many commands, and with the greatest one so many. */
    private static void number(String before, String after, int least, int most, int fewest, int many) {
        int at = before.length();
        String[] leasts = {"" + least, "0" + least, "0".repeat(600) + least};
        for (String value : leasts) {
            good(before + value + after, fewest);
        }
        String[] mosts = {"" + most, "0" + most, "0".repeat(600) + most};
        for (String value : mosts) {
            good(before + value + after, many);
        }
        if (least > 0) {
            error(RANGE, at, before + (least - 1) + after);
            error(RANGE, at, before + "0".repeat(600) + after);
        }
        error(RANGE, at, before + (most + 1) + after);
        error(RANGE, at, before + (most + 2) + after);
        error(RANGE, at, before + most + "0" + after);
        error(RANGE, at, before + "0".repeat(600) + (most + 1) + after);
        error(RANGE, at, before + "9".repeat(600) + after);
        // Numbers that would be right if they wrapped around.
        int[] bits = {8, 16, 31, 32, 33, 63, 64, 65, 128};
        for (int bit : bits) {
            BigInteger value = BigInteger.ONE.shiftLeft(bit).add(BigInteger.valueOf(least));
            if (value.compareTo(BigInteger.valueOf(most)) > 0) {
                error(RANGE, at, before + value + after);
                error(RANGE, at, before + value.add(BigInteger.ONE) + after);
            }
        }
        String[] others = {"-1", "+1", ".5", "x", "abcdefg", ";", "(", ")", "A", "/", ":", "\t", "\u00b2"};
        for (String other : others) {
            error(SYNTAX, at, before + other + after);
        }
        error(SYNTAX, at, before);
        error(SYNTAX, at + 2, before + " \n");
        error(SYNTAX, at + 1, before + "1." + after);
        error(RANGE, at, before + (most + 1) + "!");
    }

    private static void leastAndMostOfEachNumber() {
        ProphecyShop s = good("sell ben plain rain inn 0 1 1; sell ben vague war 99 60 100;"
            + "sell ben never rain pass 099 060 00100; pass 60; ask 0; ask 2; pass 1;", 7);
        Checks.due("5: days", s.day(), 61);
        Checks.due("5: least delay", s.firstDay(0), 0);
        Checks.due("5: least length", s.lastDay(0), 0);
        Checks.due("5: least price", s.refundOf(0), 1);
        for (int p = 1; p <= 2; p++) {
            Checks.due("5: longest delay", s.firstDay(p), 99);
            Checks.due("5: longest length", s.lastDay(p), 158);
        }
        Checks.due("5: half of the price of a vague one", s.refundOf(1), 50);
        Checks.due("5: the price of a denial", s.refundOf(2), 100);
        ProphecyShop rich = Checks.loaded("shop 0 1 1 100 100;event a;place a;customer a 9999 1;");
        StringBuilder sales = new StringBuilder();
        for (int p = 0; p < 24; p++) {
            sales.append("sell a vague a 0 1 ").append(p < 9 ? 999 : 1).append(';');
        }
        Checks.due("5: 24 sales", Checks.script(rich, sales.toString()), 24);
        Checks.due("5: highest price", rich.refundOf(8), 999);
        Checks.due("5: ask for the first and the last", Checks.script(rich, "ask 23; ask 0; ask 22; ask 1;"), 4);
        Checks.due("29: the last prophecy", rich.placeInQueue(23), 0);
        Checks.due("29: the first prophecy", rich.placeInQueue(0), 1);
    }

    // ---- names

    private static void names() {
        name("sell ", " plain rain inn 0 1 1;", new String[] {"ada", "ben", "cai"}, new String[] {"rain", "inn", "ad", "adam", "a"});
        name("sell ben plain ", " inn 0 1 1;", new String[] {"rain", "war"}, new String[] {"inn", "ada", "rai", "rains", "ain"});
        name("sell ben vague ", " 0 1 1;", new String[] {"rain", "war"}, new String[] {"mill", "wa", "wars", "raw"});
        name("sell ben never ", " inn 0 1 1;", new String[] {"rain", "war"}, new String[] {"pass", "ben", "r", "vague"});
        name("sell ben plain rain ", " 0 1 1;", new String[] {"inn", "mill", "pass"}, new String[] {"rain", "in", "inns", "nn"});
        name("sell ben never rain ", " 0 1 1;", new String[] {"inn", "mill", "pass"}, new String[] {"war", "cai", "mil", "pas"});
        name("happen ", " inn;", new String[] {"rain", "war"}, new String[] {"inn", "ada", "happen", "rainy"});
        name("happen rain ", ";", new String[] {"inn", "mill", "pass"}, new String[] {"rain", "war", "ada", "ill", "abcdef"});
    }

    private static void name(String before, String after, String[] right, String[] wrong) {
        for (String name : right) {
            good(before + name + after, 1);
            // Six letters at most are a name, known or not; more are out of range.
            errorAtEnd(RANGE, before, name + "abcdef" + after);
            errorAtEnd(RANGE, before, name + name + name + "!");
        }
        for (String name : wrong) {
            errorAtEnd(NAME, before, name + after);
            errorAtEnd(NAME, before, name);
        }
        errorAtEnd(NAME, before, "zzzzzz" + after);
        errorAtEnd(RANGE, before, "zzzzzzz" + after);
        errorAtEnd(RANGE, before, "z".repeat(700));
        String[] none = {"0", "7", ";", "(", ")", "A", "`", "{", "-", "\u00e4"};
        for (String other : none) {
            errorAtEnd(SYNTAX, before, other + after);
        }
        errorAtEnd(SYNTAX, before, "");
        errorAtEnd(SYNTAX, before + " \n", "");
    }

    /** Names of one letter and of six, names that are words of the grammar, and a setup without customers. */
    private static void namesOfAnotherSetup() {
        ProphecyShop s = Checks.loaded("shop 1 1 1 1 1;event a;event vague;event abcdef;place a;place plain;place abcdef;"
            + "customer a 9 1;customer sell 9 1;customer abcdef 9 1;");
        Checks.due("5: names", Checks.script(s, "sell a plain a a 0 1 1; sell sell vague vague 0 1 1;"
            + "sell abcdef never abcdef abcdef 0 1 1; happen vague plain; happen abcdef abcdef; happen a plain;"), 6);
        Checks.due("19: six letters", s.customerOf(2), 2);
        Checks.due("20: six letters", s.eventOf(2), 2);
        Checks.due("21: six letters", s.placeOf(2), 2);
        Checks.due("20: a word of the grammar", s.eventOf(1), 1);
        Checks.due("15: each where it belongs", s.timesHappened(1, 1) + s.timesHappened(2, 2) + s.timesHappened(0, 1), 3);
        ProphecyShop nobody = Checks.loaded("shop 1 1 1 1 1;event a;place a;");
        Checks.due("5: no customers", Checks.script(nobody, "happen a a; sell a vague a 0 1 1;"), NONE);
        Checks.due("6: no such name", nobody.errorCode(), NAME);
        Checks.due("7: the name", nobody.errorPosition(), 17);
        Checks.due("5: names of an older setup", Checks.script(nobody, "happen rain inn;"), NONE);
        Checks.due("6: no such name", nobody.errorCode(), NAME);
    }

    // ---- whole texts

    private static final String[] TOKENS = {"sell", "ada", "plain", "rain", "inn", "0", "1", "2", ";", "sell", "ben",
        "vague", "war", "0", "1", "2", ";", "sell", "cai", "never", "war", "mill", "0", "1", "2", ";", "happen", "rain",
        "pass", ";", "ask", "0", ";", "pass", "1", ";", "repeat", "2", "(", "pass", "1", ";", "repeat", "1", "(", ")", ";",
        "pass", "1", ";", ")", ";", "pass", "1", ";"};

    /** The error position is the length of the text if the text ends too early. */
    private static void cutOff() {
        String[] blanks = {" ", "\n", "\n \n "};
        for (String blank : blanks) {
            StringBuilder text = new StringBuilder();
            int depth = 0;
            int executed = 0;
            for (String token : TOKENS) {
                text.append(token).append(blank);
                depth += token.equals("(") ? 1 : token.equals(")") ? -1 : 0;
                executed += token.equals(";") && depth == 0 ? 1 : 0;
                if (token.equals(";") && depth == 0) {
                    // The two rounds of the repeat, which is not counted itself.
                    int more = text.indexOf("repeat") < 0 ? 0 : 3;
                    good(text.toString(), executed + more);
                } else {
                    error(SYNTAX, text.length(), text.toString());
                }
            }
        }
        errorAtEnd(SYNTAX, "", "sel");
        errorAtEnd(SYNTAX, "pass 1;", "pas");
        errorAtEnd(SYNTAX, "pass 1; pass", "");
        errorAtEnd(SYNTAX, "sell ben ", "vagu");
        errorAtEnd(NAME, "sell ben vague ", "rai");
        errorAtEnd(SYNTAX, "repeat 1(", "pas");
    }

    private static void textsOfAllLengths() {
        int[] lengths = {7, 8, 799, 800};
        for (int length : lengths) {
            String blanks = " ".repeat(length - 7);
            good("pass 1;" + blanks, 1);
            good(blanks + "pass 1;", 1);
            good("pass" + blanks.replace(' ', '\n') + " 1;", 1);
            good("pass " + "0".repeat(length - 7) + "1;", 1);
            errorAtEnd(SYNTAX, blanks + "pass 1 ", "");
            errorAtEnd(SYNTAX, blanks + "pass 1", "!");
        }
        good("", 0);
        good(" ".repeat(800), 0);
        good("\n".repeat(799), 0);
        errorAtEnd(SYNTAX, " ".repeat(799), "!");
        errorAtEnd(SYNTAX, " ".repeat(799), ")");
        error(SYNTAX, 0, ";".repeat(800));
        error(SYNTAX, 0, "p".repeat(800));
        error(SYNTAX, 0, "(".repeat(800));
        error(RANGE, 5, "pass " + "7".repeat(795));
        error(SYNTAX, 800, "pass " + "0".repeat(794) + "7");
        error(RANGE, 7, "happen " + "r".repeat(793));
    }

    /** Spaces and line feeds separate tokens; what is no letter, digit or sign of its own is invalid. */
    private static void eachByte() {
        for (int value = 1; value < 256; value++) {
            char sign = (char) value;
            boolean blank = value == 32 || value == 10;
            boolean digit = value >= '0' && value <= '9';
            boolean letter = value >= 'a' && value <= 'z';
            outcome(blank ? 0 : SYNTAX, 0, sign + "pass 1;");
            outcome(blank ? 0 : SYNTAX, 7, "pass 1;" + sign);
            outcome(blank ? 0 : SYNTAX, sign == ')' ? 11 : 10, "repeat 1 (" + sign + "pass 1;);");
            // A letter makes one long word of the two names.
            outcome(blank ? 0 : letter ? RANGE : SYNTAX, letter ? 7 : 11, "happen rain" + sign + "inn;");
            // A digit makes another number, which is too large from 61 on.
            boolean fits = digit && sign < '6';
            outcome(blank || fits ? 0 : digit ? RANGE : SYNTAX, letter ? 0 : 4, "pass" + sign + "1;");
        }
    }

    private static void outcome(int code, int position, String text) {
        if (code == 0) {
            good(text, 1);
        } else {
            error(code, position, text);
        }
    }

    // ---- thirty commands, two brackets, forty executions

    /** The word of a 31st command is an error, those in brackets and repeat included. */
    private static void thirtyCommands() {
        good("pass 1;".repeat(29), 29);
        good("pass 1;".repeat(30), 30);
        errorAtEnd(MANY, "pass 1;".repeat(30), "pass 1;");
        good("pass 1;".repeat(29) + "repeat 2();", 29);
        good("pass 1;".repeat(28) + "repeat 2(pass 1;);", 30);
        errorAtEnd(MANY, "pass 1;".repeat(29) + "repeat 2(", "pass 1;);");
        errorAtEnd(MANY, "repeat 1(repeat 1(" + "pass 1;".repeat(28), "pass 1;););");
        good("repeat 1(repeat 1(" + "pass 1;".repeat(28) + "););", 28);
        errorAtEnd(MANY, "repeat 1(repeat 1(" + "pass 1;".repeat(28) + ");", "pass 1;);");
        errorAtEnd(MANY, "repeat 1(repeat 1(" + "pass 1;".repeat(28) + "););", "pass 1;");
        // Commands that are never executed count as well.
        errorAtEnd(MANY, "repeat 0(" + "pass 1;".repeat(29) + ");", "pass 1;");
        errorAtEnd(MANY, "ask 5;" + "pass 1;".repeat(29), "pass 1;");
        good("repeat 0();".repeat(30), 0);
        errorAtEnd(MANY, "repeat 0();".repeat(30), "repeat 0();");
        good("happen rain inn;".repeat(30), 1);
        errorAtEnd(MANY, "happen rain inn;".repeat(30), "happen rain inn;");
        good("sell ben vague war 0 1 1;".repeat(30), 24);
        errorAtEnd(MANY, "sell ben vague war 0 1 1;".repeat(30), "sell ben vague war 0 1 1;");
        good("sell ben vague war 0 1 1;" + "ask 0;".repeat(29), 2);
        errorAtEnd(MANY, "sell ben vague war 0 1 1;" + "ask 0;".repeat(29), "ask 0;");
    }

    /** The error stands at the word of that command, whatever follows the word. */
    private static void oneCommandMore() {
        String full = "pass 1;".repeat(30);
        for (String word : WORDS) {
            errorAtEnd(MANY, full, word);
            errorAtEnd(MANY, full, word + ";");
            errorAtEnd(MANY, full, word + " 99 abcdefg!");
            errorAtEnd(MANY, full + " \n", word + " ");
            errorAtEnd(SYNTAX, full, word + "s");
            errorAtEnd(SYNTAX, full, word.substring(1));
            errorAtEnd(SYNTAX, full, ";" + word);
            errorAtEnd(SYNTAX, full, "1 " + word);
            errorAtEnd(SYNTAX, full, "(" + word);
            errorAtEnd(SYNTAX, full, ")" + word);
        }
        errorAtEnd(SYNTAX, full, "abcdefg");
        errorAtEnd(SYNTAX, full, "plain");
        errorAtEnd(SYNTAX, full, "shop");
        errorAtEnd(SYNTAX, full, "!");
    }

    /** Two brackets may be open at once, as often as there are commands. */
    private static void brackets() {
        good("repeat 1(pass 1;);", 1);
        good("repeat 1(repeat 1(pass 1;););", 1);
        good("repeat 2(repeat 2(pass 1;);repeat 2(pass 1;);pass 1;);repeat 2(repeat 2(pass 1;););", 14);
        good("repeat 1(" + "repeat 1();".repeat(29) + ");", 0);
        good("repeat 1(repeat 1(););".repeat(15), 0);
        good("repeat 2(repeat 3(););pass 1;", 1);
        errorAtEnd(MANY, "repeat 1(repeat 1(repeat 1", "(pass 1;););");
        errorAtEnd(MANY, "repeat 0(repeat 0(repeat 0", "();););");
        errorAtEnd(MANY, "repeat 1(repeat 1(pass 1;);repeat 1(pass 1;);repeat 1(repeat 1", "(");
        errorAtEnd(MANY, "repeat 1(repeat 1(););repeat 1(repeat 1(repeat 1 \n", "();););");
        errorAtEnd(SYNTAX, "pass 1;", ")");
        errorAtEnd(SYNTAX, "repeat 1(pass 1;);", ");");
        errorAtEnd(SYNTAX, "repeat 1(repeat 1(););", ");");
        errorAtEnd(SYNTAX, "repeat 1(repeat 1()", ")");
        errorAtEnd(SYNTAX, "repeat 1(pass 1;)", "pass 1;");
        errorAtEnd(SYNTAX, "repeat 1(pass 1", ")");
        errorAtEnd(SYNTAX, "repeat 1(repeat 1(pass 1;);", "");
        errorAtEnd(SYNTAX, "repeat 1(repeat 1(pass 1;)", "");
        errorAtEnd(SYNTAX, "repeat 1", ")");
        errorAtEnd(SYNTAX, "repeat 1", ";");
        errorAtEnd(SYNTAX, "repeat 1", "pass 1;");
        errorAtEnd(SYNTAX, "repeat ", "(pass 1;);");
        errorAtEnd(SYNTAX, "repeat 1(", "(pass 1;););");
        errorAtEnd(SYNTAX, "repeat 1(", ";);");
    }

    /** The third bracket is an error itself, whatever follows it. */
    private static void oneBracketMore() {
        String before = "repeat 1(repeat 1(repeat 1 ";
        String[] rests = {"(", "()", "()););", "(pass 1;););", "(!", "(;", "((", "(abcdefg"};
        for (String rest : rests) {
            errorAtEnd(MANY, before, rest);
        }
        errorAtEnd(SYNTAX, before, "");
        errorAtEnd(SYNTAX, before, ")");
        errorAtEnd(SYNTAX, before, ";(");
        errorAtEnd(SYNTAX, before, "1(");
        errorAtEnd(SYNTAX, before, "pass(");
        errorAtEnd(RANGE, "repeat 1(repeat 1(repeat ", "21(");
        errorAtEnd(SYNTAX, "repeat 1(repeat 1(repeat ", "(");
        errorAtEnd(SYNTAX, "repeat 1(repeat 1(", "(");
    }

    /** If several kinds of errors apply to a token, the smallest code is reported; the first token that has one counts. */
    private static void smallestCode() {
        errorAtEnd(RANGE, "happen ", "weather seaside;");
        errorAtEnd(NAME, "happen ", "snow seaside;");
        errorAtEnd(RANGE, "happen rain ", "seaside 99");
        errorAtEnd(NAME, "pass 1; happen rain ", "sea; pass 61; !");
        errorAtEnd(RANGE, "pass 1; pass ", "61; happen rain sea; !");
        errorAtEnd(SYNTAX, "pass 1; ", "! pass 61; happen rain sea;");
        errorAtEnd(SYNTAX, "sell ada ", "abcdefg rain inn 0 1 1;");
        errorAtEnd(SYNTAX, "", "abcdefg 1;");
        errorAtEnd(SYNTAX, "pass 1 ", "abcdefg;");
        // The word of the 31st command comes before the third bracket.
        errorAtEnd(MANY, "pass 1;".repeat(28) + "repeat 1(repeat 1(", "repeat 1(");
        errorAtEnd(MANY, "pass 1;".repeat(27) + "repeat 1(repeat 1(repeat 1", "(");
        errorAtEnd(NAME, "pass 1;".repeat(29) + "happen rain ", "sea;pass 1;");
        errorAtEnd(RANGE, "pass 1;".repeat(29) + "pass ", "61;pass 1;");
    }

    /** The execution ends after 40 commands; repeat itself is not counted. */
    private static void fortyCommands() {
        Checks.due("5: 39", good("repeat 13(pass 1;pass 1;pass 1;);", 39).day(), 39);
        Checks.due("5: 40", good("repeat 13(pass 1;pass 1;pass 1;);pass 1;", 40).day(), 40);
        Checks.due("5: 41", good("repeat 13(pass 1;pass 1;pass 1;);pass 1;pass 9;", 40).day(), 40);
        Checks.due("5: 40 at the end of a round", good("repeat 20(pass 1;pass 1;);pass 9;", 40).day(), 40);
        Checks.due("5: 40 within a round", good("repeat 20(pass 1;pass 2;pass 3;);", 40).day(), 13 * 6 + 1);
        Checks.due("5: 40 in two brackets", good("repeat 20(repeat 20(pass 1;);pass 9;);", 40).day(), 20 + 9 + 19);
        Checks.due("5: forty of thirty", good("pass 1;".repeat(28) + "repeat 20(pass 1;);", 40).day(), 40);
        Checks.due("5: 600 repeats are no commands", good("repeat 20(" + "repeat 20();".repeat(28) + ");pass 1;", 1).day(), 1);
        Checks.due("5: no command after 40", good("repeat 20(pass 1;pass 1;);ask 9;", 40).undoCount(), 1);
        ProphecyShop s = good("repeat 20(pass 1;happen rain inn;);happen war inn;", 40);
        Checks.due("5: the fortieth is executed", s.timesHappened(0, 0), 20);
        Checks.due("5: the 41st is not", s.timesHappened(1, 0), 0);
        ProphecyShop t = good("pass 1;repeat 20(happen rain inn;pass 1;);", 40);
        Checks.due("5: the fortieth is executed", t.timesHappened(0, 0), 20);
        Checks.due("5: the 41st is not", t.day(), 20);
        // The count begins anew with each script.
        Checks.due("5: forty again", Checks.script(t, "repeat 20(pass 1;pass 1;pass 1;);"), 40);
    }

    private static void repeatTimes() {
        int[] times = {0, 1, 2, 19, 20};
        for (int n : times) {
            Checks.due("5: times " + n, good("repeat " + n + "(pass 2;);", n).day(), 2 * n);
            Checks.due("5: inner times " + n, good("repeat 2(repeat " + n + "(pass 1;););", 2 * n).day(), 2 * n);
            Checks.due("5: outer times " + n, good("repeat " + n + "(repeat 2(pass 1;););", 2 * n).day(), 2 * n);
            Checks.due("5: then the next", good("repeat " + n + "();pass 3;", 1).day(), 3);
        }
        Checks.due("5: none of none", good("repeat 0(repeat 0(pass 1;);pass 1;);", 0).day(), 0);
        Checks.due("5: the same repeat again and again",
            good("repeat 3(repeat 2(pass 1;);repeat 0(pass 60;);repeat 1(pass 10;););", 9).day(), 36);
    }

    // ---- what ends the execution

    /** The script ends before the command: the commands before are in effect, the command and those after are not. */
    private static void ends(String what, Supplier<ProphecyShop> made, String command) {
        ProphecyShop s = made.get();
        int handled = s.handledRequests();
        int day = s.day();
        Checks.due("5: ends before " + what, Checks.script(s, command + " happen war pass; sell ada vague war 0 1 1;"), 0);
        Checks.due("5: nothing is done by " + what, View.ofState(s), View.ofState(made.get()));
        Checks.due("6: no error, " + what, s.errorCode(), 0);
        Checks.due("5: a change all the same, " + what, s.undoCount() > 0, true);
        ProphecyShop t = made.get();
        Checks.due("5: one before " + what, Checks.script(t, "happen war pass; " + command + "sell ada vague war 0 1 1;"), 1);
        Checks.due("5: it stays in effect before " + what, t.timesHappened(1, 2), 1);
        Checks.due("5: nothing after " + what, t.day() + t.handledRequests(), day + handled);
    }

    private static void goesOn(String what, Supplier<ProphecyShop> made, String command) {
        Checks.due("5: goes on after " + what, Checks.script(made.get(), command + " happen war pass;"), 2);
    }

    private static void endsBeforeASale() {
        Supplier<ProphecyShop> fresh = ProphecyShop::new;
        goesOn("the whole purse", fresh, "sell ada plain rain inn 0 1 80;");
        ends("a coin more", fresh, "sell ada plain rain inn 0 1 81;");
        goesOn("the whole purse", fresh, "sell cai vague rain 0 1 20;");
        ends("a coin more", fresh, "sell cai vague rain 0 1 21;");
        goesOn("the whole purse", fresh, "sell ben never rain inn 0 1 300;");
        ends("a coin more", fresh, "sell ben never rain inn 0 1 301;");
        ends("the highest price", fresh, "sell ben never rain inn 0 1 999;");
        Supplier<ProphecyShop> nearlyFull = () -> Checks.after("sell ben vague war 0 1 1;".repeat(23));
        Supplier<ProphecyShop> full = () -> Checks.after("sell ben vague war 0 1 1;".repeat(24));
        String[] sales = {"plain rain inn", "vague rain", "never rain inn"};
        for (String sale : sales) {
            goesOn("the 24th", nearlyFull, "sell ben " + sale + " 0 1 1;");
            ends("the 25th", full, "sell ben " + sale + " 0 1 1;");
        }
    }

    private static void endsBeforeAHappening() {
        Supplier<ProphecyShop> once = () -> Checks.after("happen rain inn;");
        goesOn("another place", once, "happen rain mill;");
        goesOn("another event", once, "happen war inn;");
        ends("twice on a day", once, "happen rain inn;");
        goesOn("the next day", () -> Checks.after("happen rain inn; pass 1;"), "happen rain inn;");
        // War at the pass, of which ends and goesOn make use, is left out.
        String day = "happen rain inn; happen rain mill; happen rain pass; pass 1;";
        Supplier<ProphecyShop> nearlySixty = () -> {
            ProphecyShop s = Checks.after("repeat 10(" + day + ");");
            Checks.script(s, "repeat 9(" + day + "); happen rain inn; ");
            return s;
        };
        ProphecyShop s = nearlySixty.get();
        Checks.due("47: 58 are noted", s.timesHappened(0, 0) + s.timesHappened(0, 1) + s.timesHappened(0, 2), 58);
        goesOn("the 59th", nearlySixty, "happen rain mill;");
        Checks.due("5: ends before the 61st",
            Checks.script(s, "happen rain mill; happen rain pass; happen war inn; happen war mill;"), 2);
        Checks.due("5: ends before the 61st again", Checks.script(s, "pass 1; happen rain inn; pass 1;"), 1);
    }

    private static void endsBeforeARequest() {
        Supplier<ProphecyShop> none = ProphecyShop::new;
        ends("no prophecy", none, "ask 0;");
        ends("no prophecy", none, "ask 23;");
        Supplier<ProphecyShop> two = () -> Checks.after("sell ben vague war 0 9 1; sell ben vague rain 0 9 1; ask 0;");
        goesOn("the last prophecy", two, "ask 1;");
        ends("one after the last", two, "ask 2;");
        ends("a request in the queue", two, "ask 0;");
        Supplier<ProphecyShop> all = () -> Checks.after("sell ben vague war 0 9 1;".repeat(24));
        goesOn("the 24th prophecy", all, "ask 23;");
        Checks.due("5: asked for again when it was handled", Checks.script(two.get(), "ask 1; pass 1; ask 0; ask 1;"), 4);
    }

    private static ProphecyShop onDay(int day) {
        ProphecyShop s = new ProphecyShop();
        for (int left = day; left > 0; left -= 60) {
            s.advance(Math.min(left, 60));
        }
        return s;
    }

    private static void endsBeforeADay() {
        goesOn("day 9999", () -> onDay(9939), "pass 60;");
        ends("day 10000", () -> onDay(9940), "pass 60;");
        goesOn("day 9999", () -> onDay(9998), "pass 1;");
        ends("day 10000", () -> onDay(9998), "pass 2;");
        ends("day 10000", () -> onDay(9999), "pass 1;");
        ends("day 10059", () -> onDay(9999), "pass 60;");
        ProphecyShop s = onDay(9990);
        Checks.due("5: nine days more", Checks.script(s, "repeat 20(pass 1;);"), 9);
        Checks.due("8: the last day", s.day(), 9999);
        Checks.due("5: other commands go on", Checks.script(s, "sell ada plain rain inn 99 60 1; ask 0; happen rain inn;"), 3);
    }

    /** The command that would throw ends every bracket, in whatever round. */
    private static void endsAfterAnyCommand() {
        Checks.due("5: in the first round", good("repeat 3(pass 1;ask 0;);pass 9;", 1).day(), 1);
        Checks.due("5: in the second round", good("repeat 3(happen rain inn;repeat 1(pass 1;);sell ada vague war 0 1 41;);pass 9;",
            5).day(), 2);
        Checks.due("5: in an inner round", good("repeat 3(repeat 3(happen war inn;);pass 1;);pass 9;", 1).day(), 0);
        Checks.due("5: at once", good("ask 0;pass 9;", 0).day(), 0);
        Checks.due("5: as the fortieth", good("repeat 13(pass 1;pass 1;pass 1;);ask 0;pass 9;", 39).day(), 39);
    }

    // ---- the change

    private static void emptyScripts() {
        String[] texts = {"", " ", "\n", "repeat 0();", "repeat 20(repeat 20(););", "repeat 0(pass 1;);"};
        for (String text : texts) {
            ProphecyShop s = good(text, 0);
            Checks.due("5: nothing has changed by " + text, View.ofState(s), View.ofState(new ProphecyShop()));
            Checks.due("54: it is undone, " + text, s.undo(), 0);
        }
    }

    private static ProphecyShop busy() {
        ProphecyShop s = Checks.after("sell ben plain rain inn 0 1 30; sell ada vague war 0 9 5; happen rain mill; pass 1;"
            + "ask 0; pass 1;");
        s.save(0);
        s.ask(1);
        s.sellDenial(2, 1, 1, 0, 9, 20);
        s.writeProphecy(2);
        return s;
    }

    /** If the text has an error, the call is not a change, and nothing of the script is executed. */
    private static void errorLeavesAll() {
        String[] texts = {"!", "pass 1", "pass 1; ask 24;", "pass 1; happen rain sea;", "repeat 2(pass 1;", "pass 1;".repeat(31),
            "shop 1 1 1 1 1;event a;place a;"};
        for (String text : texts) {
            ProphecyShop failed = busy();
            Checks.put(failed, text);
            Checks.due("5: an error in " + text, failed.runScript(), NONE);
            ProphecyShop other = busy();
            Checks.put(other, text);
            other.load();
            if (text.startsWith("shop")) {
                Checks.due("5: a setup is no script", failed.errorPosition(), 0);
                continue;
            }
            Checks.due("5: all stays after " + text, View.ofAll(failed).replaceAll("error \\d at \\d+", ""),
                View.ofAll(other).replaceAll("error \\d at \\d+", ""));
        }
    }

    private static void errorsOneAfterAnother() {
        ProphecyShop s = new ProphecyShop();
        Checks.due("6: no such call", s.errorCode(), 0);
        Checks.due("7: no such call", s.errorPosition(), NONE);
        String[] texts = {"pass 0;", "pass", "happen rain sea;", "repeat 1(repeat 1(repeat 1(", "pass 1;", "!", "", "ask 24;"};
        int[] codes = {RANGE, SYNTAX, NAME, MANY, 0, SYNTAX, 0, RANGE};
        int[] positions = {5, 4, 12, 26, NONE, 0, NONE, 4};
        for (int i = 0; i < texts.length; i++) {
            Checks.due("5: script " + texts[i], Checks.script(s, texts[i]) == NONE, codes[i] != 0);
            Checks.due("6: only the latest", s.errorCode(), codes[i]);
            Checks.due("7: only the latest", s.errorPosition(), positions[i]);
        }
        Checks.put(s, "shop 1 1 1 1 1;event a;place a;");
        s.load();
        Checks.due("6: load comes after the script", s.errorCode(), 0);
        Checks.due("7: load comes after the script", s.errorPosition(), NONE);
        Checks.put(s, "shop 1 1 1 1 201;");
        s.load();
        Checks.script(s, "pass 1;");
        Checks.due("6: the script comes after load", s.errorCode(), 0);
        Checks.due("7: the script comes after load", s.errorPosition(), NONE);
    }

    /** A script is recorded as one change, however many commands it has. */
    private static void oneChangeOfMany() {
        ProphecyShop s = new ProphecyShop();
        for (int i = 1; i <= 9; i++) {
            Checks.due("5: forty commands", Checks.script(s, "repeat 20(pass 1;pass 1;);"), 40);
            Checks.due("53: as one change", s.undoCount(), Math.min(i, 8));
        }
        for (int i = 8; i >= 1; i--) {
            Checks.due("54: forty days are undone", s.undo(), i - 1);
            Checks.due("54: day", s.day(), 40 * i);
        }
        Checks.badState("54: the first script is forgotten", s, () -> s.undo());
    }
}
