import java.math.BigInteger;

/** The edges of promise 4 (load), and of what 6 and 7 tell of its errors: each number, name, count and byte. */
public final class SetupEdgeTest {
    private static final int NONE = ProphecyShop.NONE;
    private static final int SYNTAX = ProphecyShop.SYNTAX;
    private static final int RANGE = ProphecyShop.OUT_OF_RANGE;
    private static final int NAME = ProphecyShop.WRONG_NAME;
    private static final int MANY = ProphecyShop.TOO_MANY;
    private static final String REST = "event a;place a;customer a 1 1;owl 1;";
    private static final String SHORT = "shop 1 1 1 1 1;event a;place a;";

    public static void main(String[] args) {
        numbers();
        leastAndMostCash();
        leastAndMostRate();
        leastAndMostGrace();
        leastAndMostPercentage();
        leastAndMostPurse();
        leastAndMostDistanceAndSpeed();
        names();
        takenNames();
        counts();
        largestShop();
        smallestCode();
        cutOff();
        textsOfAllLengths();
        eachByte();
        errorLeavesAll();
        errorAfterError();
        afterLoad();
        Checks.end("SetupEdgeTest");
    }

    private static ProphecyShop good(String text) {
        ProphecyShop s = new ProphecyShop();
        Checks.put(s, text);
        Checks.due("4: load of " + text, s.load(), 0);
        Checks.due("6: no error in " + text, s.errorCode(), 0);
        Checks.due("7: no error position in " + text, s.errorPosition(), NONE);
        Checks.due("4: the text is emptied", s.truncate(0), 0);
        return s;
    }

    private static void error(int code, int position, String text) {
        ProphecyShop s = new ProphecyShop();
        Checks.put(s, text);
        Checks.due("4: load of " + text, s.load(), code);
        Checks.due("6: error code of " + text, s.errorCode(), code);
        Checks.due("7: error position of " + text, s.errorPosition(), position);
        Checks.due("4: the text is emptied", s.truncate(0), 0);
        Checks.due("4: the shop stays", s.cash() * 10 + s.customerCount(), 1003);
    }

    // ---- numbers

    /** The setup before and after each of its numbers, with the least and the greatest value that it may have. */
    private static void numbers() {
        number("shop ", " 1 1 1 1;" + REST, 0, 99999);
        number("shop 1 ", " 1 1 1;" + REST, 1, 9);
        number("shop 1 1 ", " 1 1;" + REST, 0, 99);
        number("shop 1 1 1 ", " 1;" + REST, 0, 200);
        number("shop 1 1 1 1 ", ";" + REST, 0, 200);
        number(SHORT + "customer a ", " 1;owl 1;", 0, 9999);
        number(SHORT + "customer a 1 ", ";owl 1;", 1, 30);
        number(SHORT + "owl ", ";owl 1;", 1, 9);
    }

    private static void number(String before, String after, int least, int most) {
        int at = before.length();
        int[] right = {least, least + 1, most - 1, most};
        for (int value : right) {
            good(before + value + after);
            good(before + "0" + value + after);
            good(before + "0".repeat(600) + value + after);
        }
        if (least > 0) {
            error(RANGE, at, before + (least - 1) + after);
            error(RANGE, at, before + "0".repeat(600) + after);
        }
        int[] wrong = {most + 1, most + 2, most * 10, Integer.MAX_VALUE};
        for (int value : wrong) {
            error(RANGE, at, before + value + after);
        }
        error(RANGE, at, before + "0".repeat(600) + (most + 1) + after);
        error(RANGE, at, before + "9".repeat(600) + after);
        // Numbers that would be right if they wrapped around.
        int[] bits = {8, 16, 31, 32, 33, 63, 64, 65, 128};
        for (int bit : bits) {
            BigInteger value = BigInteger.ONE.shiftLeft(bit).add(BigInteger.valueOf(least));
            if (value.compareTo(BigInteger.valueOf(most)) > 0) {
                error(RANGE, at, before + value + after);
                error(RANGE, at, before + "00" + value.add(BigInteger.ONE) + after);
            }
        }
        error(RANGE, at, before + BigInteger.TEN.pow(200).add(BigInteger.valueOf(least)) + after);
        noNumber(before, after, most);
    }

    private static void noNumber(String before, String after, int most) {
        int at = before.length();
        String[] others = {"-1", "+1", ".5", "x", "abcdefg", ";", "(", ")", "A", "/", ":", "\t", "\u00b2"};
        for (String other : others) {
            error(SYNTAX, at, before + other + after);
        }
        error(SYNTAX, at, before);
        error(SYNTAX, at + 2, before + " \n");
        error(SYNTAX, at + 1, before + "1." + after);
        error(RANGE, at, before + (most + 1) + "." + after);
    }

    private static void leastAndMostCash() {
        Checks.due("9: no cash", good("shop 0 1 1 1 1;" + REST).cash(), 0);
        Checks.due("9: a coin", good("shop 1 1 1 1 1;" + REST).cash(), 1);
        Checks.due("9: most cash but one", good("shop 99998 1 1 1 1;" + REST).cash(), 99998);
        Checks.due("9: most cash", good("shop 99999 1 1 1 1;" + REST).cash(), 99999);
        ProphecyShop s = good("shop 99999 1 1 1 1;event a;place a;customer a 9999 1;");
        s.sellPlain(0, 0, 0, 0, 1, 999);
        Checks.due("9: more than at first", s.cash(), 100998);
    }

    /** Requests for open prophecies, of which so many are handled in a day. */
    private static void leastAndMostRate() {
        for (int rate = 1; rate <= 9; rate++) {
            ProphecyShop s = good("shop 1 " + rate + " 1 1 1;event a;place a;customer a 99 1;");
            for (int p = 0; p < 20; p++) {
                s.sellPlain(0, 0, 0, 0, 60, 1);
                s.ask(p);
            }
            Checks.due("4: rate " + rate + ", the first day", s.advance(1), rate);
            Checks.due("4: rate " + rate + ", the second day", s.advance(1), rate);
        }
    }

    private static void leastAndMostGrace() {
        int[] graces = {0, 1, 98, 99};
        for (int grace : graces) {
            ProphecyShop s = good("shop 9 1 " + grace + " 100 100;event a;place a;customer a 9 1;owl 1;");
            s.sellDenial(0, 0, 0, 0, 1, 1);
            s.happen(0, 0);
            for (int day = 0; day < grace; day++) {
                s.advance(1);
            }
            Checks.due("4: grace " + grace + ", its last day", s.expectedAnswer(0), ProphecyShop.PAID);
            s.advance(1);
            Checks.due("4: grace " + grace + ", a day later", s.expectedAnswer(0), ProphecyShop.TOO_LATE);
        }
    }

    private static void leastAndMostPercentage() {
        int[] percentages = {0, 1, 99, 100, 101, 199, 200};
        for (int percentage : percentages) {
            ProphecyShop s = good("shop 1 1 1 " + percentage + " " + (200 - percentage)
                + ";event a;place a;customer a 9999 1;");
            s.sellPlain(0, 0, 0, 0, 1, 100);
            s.sellDenial(0, 0, 0, 0, 1, 100);
            s.sellVague(0, 0, 0, 1, 100);
            Checks.due("4: percentage of a plain one", s.refundOf(0), percentage);
            Checks.due("4: percentage of a denial", s.refundOf(1), percentage);
            Checks.due("4: percentage of a vague one", s.refundOf(2), 200 - percentage);
        }
    }

    private static void leastAndMostPurse() {
        ProphecyShop s = good(SHORT + "customer a 0 1;customer b 1 1;customer c 9998 1;customer d 9999 1;");
        int[] want = {0, 1, 9998, 9999};
        for (int c = 0; c < want.length; c++) {
            Checks.due("4: purse " + c, s.purse(c), want[c]);
        }
    }

    /** A flight takes the distance divided by the speed, rounded up, and the flight back as long. */
    private static void leastAndMostDistanceAndSpeed() {
        int[] distances = {1, 2, 8, 9, 10, 17, 18, 19, 29, 30};
        for (int speed = 1; speed <= 9; speed++) {
            for (int distance : distances) {
                String rest = distance + ";owl " + speed + ";";
                ProphecyShop s = good("shop 9 1 1 100 100;event a;place a;customer a 9 " + rest);
                s.sellPlain(0, 0, 0, 0, 1, 7);
                s.ask(0);
                s.advance(1);
                int days = distance / speed + (distance % speed > 0 ? 1 : 0);
                String what = distance + " by " + speed;
                Checks.due("4: days of " + what, s.owlDays(0), days);
                if (days > 1) {
                    s.advance(days - 1);
                }
                Checks.due("33: the last day of " + what, s.owlDays(0), 1);
                Checks.due("34: still with the owl, " + what, s.owlCoins(0), 7);
                Checks.due("14: not yet, " + what, s.purse(0), 2);
                s.advance(1);
                Checks.due("14: arrived, " + what, s.purse(0), 9);
                Checks.due("34: nothing to carry back, " + what, s.owlCoins(0), 0);
                Checks.due("33: back as long as " + what, s.owlDays(0), days);
                Checks.due("32: not idle on the way back, " + what, s.idleOwls(), 0);
                s.advance(days);
                Checks.due("33: back from " + what, s.owlDays(0), 0);
                Checks.due("32: idle after " + what, s.idleOwls(), 1);
            }
        }
    }

    // ---- names

    private static void names() {
        name("shop 1 1 1 1 1;event ", ";place a;", ";");
        name("shop 1 1 1 1 1;event a;place ", ";", ";");
        name(SHORT + "customer ", " 1 1;", " 1");
    }

    /** Names are words of 1 to 6 lowercase letters. */
    private static void name(String before, String after, String next) {
        int at = before.length();
        String[] right = {"a", "z", "zy", "azaz", "zzzzz", "aaaaaa", "zzzzzz", "mnopqr", "shop", "event", "place",
            "owl", "sell"};
        for (String name : right) {
            good(before + name + after);
        }
        String[] wrong = {"aaaaaaa", "zzzzzzz", "customer", "abcdefgh", "z".repeat(64), "z".repeat(700)};
        for (String name : wrong) {
            error(RANGE, at, before + name + after);
        }
        String[] none = {"0", "1", "1a", "A", "`", "{", "@", "[", "_", "-a", ";", "(", ")", "\u00e4", "\u0001",
            "\u007f"};
        for (String name : none) {
            error(SYNTAX, at, before + name + after);
        }
        error(SYNTAX, at, before);
        error(SYNTAX, at + 1, before + "\n");
        error(SYNTAX, at + 4, before + "ab\n b" + after);
        error(SYNTAX, at + 6, before + "abcdefA" + after);
        error(SYNTAX, at + 1, before + "a`" + after);
        error(SYNTAX, at + 1, before + "a{" + after);
        // Out of range before all that comes after the word.
        error(RANGE, at, before + "abcdefg");
        error(RANGE, at, before + "abcdefg!" + next);
    }

    /** No two events, no two places and no two customers have the same name. */
    private static void takenNames() {
        taken("shop 1 1 1 1 1;event first;event b;event abcdef;", "event ", ";", "place a;");
        taken("shop 1 1 1 1 1;event first;place first;place b;place abcdef;", "place ", ";", "");
        taken(SHORT + "customer first 1 1;customer b 1 1;customer abcdef 1 1;", "customer ", " 1 1;", "owl 1;");
        good("shop 1 1 1 1 1;event ab;event cd;place cd;place ab;customer ab 1 1;customer cd 1 1;owl 1;");
    }

    private static void taken(String before, String word, String after, String rest) {
        String[] taken = {"first", "b", "abcdef"};
        for (String name : taken) {
            error(NAME, before.length() + word.length(), before + word + name + after + rest);
            error(NAME, before.length() + word.length(), before + word + name);
        }
        String[] free = {"firs", "f", "irst", "a", "c", "bb", "ab", "ba", "abcde", "abcdeg", "bcdef", "fedcba"};
        for (String name : free) {
            good(before + word + name + after + rest);
        }
        // The word is too long, whatever name it begins with.
        error(RANGE, before.length() + word.length(), before + word + "abcdefg" + after);
        error(RANGE, before.length() + word.length(), before + word + "abcdefa" + after);
    }

    // ---- counts

    /** So many lines of a kind, with the names a, b, c and so on. */
    private static String lines(String word, int count, String tail) {
        StringBuilder s = new StringBuilder();
        for (int i = 0; i < count; i++) {
            s.append(word).append(' ').append((char) ('a' + i)).append(tail);
        }
        return s.toString();
    }

    private static void counts() {
        String head = "shop 1 1 1 1 1;";
        error(SYNTAX, head.length(), head + "place a;");
        error(SYNTAX, (head + "event a;").length(), head + "event a;customer a 1 1;");
        error(SYNTAX, (head + "event a;").length(), head + "event a;owl 1;");
        error(SYNTAX, (head + "event a;").length(), head + "event a;");
        for (int count = 1; count <= 6; count++) {
            Checks.due("10: events", good(head + lines("event", count, ";") + "place a;").eventCount(), count);
            Checks.due("11: places", good(head + "event a;" + lines("place", count, ";")).placeCount(), count);
        }
        for (int count = 0; count <= 8; count++) {
            Checks.due("12: customers", good(SHORT + lines("customer", count, " 1 1;")).customerCount(), count);
        }
        for (int count = 0; count <= 5; count++) {
            Checks.due("32: owls", good(SHORT + "owl 1;".repeat(count)).idleOwls(), count);
        }
        oneMore(head + lines("event", 6, ";"), "event", " g;", "place a;");
        oneMore(head + "event a;" + lines("place", 6, ";"), "place", " g;", "");
        oneMore(SHORT + lines("customer", 8, " 1 1;"), "customer", " i 1 1;", "owl 1;");
        oneMore(SHORT + "owl 1;".repeat(5), "owl", " 1;", "");
        oneMore(SHORT + lines("customer", 8, " 1 1;") + "owl 1;".repeat(5), "owl", " 1;", "");
    }

    /** The error stands at the word of the line that is one too many, whatever follows that word. */
    private static void oneMore(String full, String word, String tail, String rest) {
        int at = full.length();
        error(MANY, at, full + word + tail + rest);
        error(MANY, at, full + word + tail + word + tail + rest);
        error(MANY, at, full + word);
        error(MANY, at + 2, full + " \n" + word + " ");
        error(MANY, at, full + word + " a 1 1;");
        error(MANY, at, full + word + " abcdefg;");
        error(MANY, at, full + word + " 10;");
        error(MANY, at, full + word + ";");
        error(MANY, at, full + word + "!");
        error(SYNTAX, at, full + word + "s" + tail + rest);
        error(SYNTAX, at, full + word.substring(1) + tail + rest);
        error(SYNTAX, at, full + ";" + word + tail + rest);
    }

    /** Six events, six places, eight customers and five owls: the last of each kind is as good as the first. */
    private static void largestShop() {
        ProphecyShop s = good("shop 9 9 9 100 100;" + lines("event", 6, ";") + lines("place", 6, ";")
            + lines("customer", 8, " 20 3;") + "owl 9;owl 9;owl 9;owl 9;owl 1;");
        for (int c = 0; c < 8; c++) {
            Checks.due("44: number", s.sellPlain(c, c % 6, 5 - c % 6, 0, 1, 1 + c), c);
            s.ask(c);
        }
        s.happen(5, 5);
        Checks.due("17: the last place", s.liveliestPlace(), 5);
        Checks.due("15: the last event", s.timesHappened(5, 5), 1);
        s.writeProphecy(5);
        Checks.due("50: the last names", Checks.output(s), "f:f@a 0-0");
        s.writeProphecy(7);
        Checks.due("50: the last customer", Checks.output(s), "h:b@e 0-0");
        Checks.due("14: the last purse", s.purse(7), 12);
        Checks.due("49: five owls", s.advance(1), 5);
        Checks.due("33: the last owl", s.owlDays(4), 3);
        Checks.due("34: the last owl", s.owlCoins(4), 5);
        Checks.due("40: no coin is lost", s.contradictions(), 0);
        s.advance(2);
        Checks.due("49: the others are there again", s.queueLength(), 0);
        s.advance(1);
        Checks.due("14: the last refund", s.purse(7), 20);
        s.undo();
        Checks.due("54: before the last refund", s.purse(7), 12);
        Checks.due("40: no coin is lost", s.contradictions(), 0);
    }

    /** If several kinds of errors apply to a token, the smallest code is reported. */
    private static void smallestCode() {
        String events = "shop 1 1 1 1 1;" + lines("event", 6, ";");
        // A line that is too many and of a kind that is not allowed there any more.
        error(SYNTAX, (events + "place a;").length(), events + "place a;event g;");
        String places = "shop 1 1 1 1 1;event a;" + lines("place", 6, ";");
        error(SYNTAX, (places + "owl 1;").length(), places + "owl 1;place g;");
        error(SYNTAX, (places + "customer a 1 1;").length(), places + "customer a 1 1;place g;");
        String customers = SHORT + lines("customer", 8, " 1 1;");
        error(SYNTAX, (customers + "owl 1;").length(), customers + "owl 1;customer i 1 1;");
        String owls = SHORT + "owl 1;".repeat(5);
        error(SYNTAX, owls.length(), owls + "customer a 1 1;");
        // A word of more than six letters where a line may begin is a word that is not allowed there.
        error(SYNTAX, events.length(), events + "eventss g;");
        error(SYNTAX, 0, "abcdefg");
        error(SYNTAX, 6, "shop 1abcdefg");
    }

    // ---- whole texts

    private static final String[] TOKENS = {"shop", "1", "2", "3", "4", "5", ";", "event", "rain", ";", "event", "war",
        ";", "place", "inn", ";", "place", "mill", ";", "customer", "ada", "8", "9", ";", "customer", "ben", "10", "11",
        ";", "owl", "3", ";", "owl", "4", ";"};

    /** The error position is the length of the text if the text ends too early. */
    private static void cutOff() {
        String[] blanks = {" ", "\n", " \n \n "};
        for (String blank : blanks) {
            StringBuilder text = new StringBuilder();
            for (int i = 0; i < TOKENS.length; i++) {
                text.append(TOKENS[i]).append(blank);
                if (i >= 15 && TOKENS[i].equals(";")) {
                    good(text.toString());
                } else {
                    error(SYNTAX, text.length(), text.toString());
                }
            }
        }
        // A word that is cut in two is another word; a number or a name is just a shorter one.
        error(SYNTAX, 0, "sho");
        error(SYNTAX, 4, "shop");
        error(SYNTAX, 15, "shop 1 1 1 1 1;even");
        error(SYNTAX, 20, "shop 1 1 1 1 1;event");
        error(SYNTAX, 22, "shop 1 1 1 1 1;event r");
        error(SYNTAX, 23, "shop 1 1 1 1 1;event a;plac");
        error(SYNTAX, 28, "shop 1 1 1 1 1;event a;place");
        error(SYNTAX, SHORT.length(), SHORT + "c");
        error(SYNTAX, SHORT.length(), SHORT + "ow");
    }

    /** A text buffer holds at most 800 bytes. */
    private static void textsOfAllLengths() {
        String setup = "shop 1 1 1 1 1;" + REST;
        int[] lengths = {setup.length(), setup.length() + 1, 799, 800};
        for (int length : lengths) {
            String blanks = " ".repeat(length - setup.length());
            good(setup + blanks);
            good(blanks + setup);
            good(setup.replaceFirst(" ", " " + blanks));
            good(setup.replace("event a", "event " + blanks.replace(' ', '\n') + "a"));
            error(SYNTAX, length, setup.substring(0, setup.length() - 1) + blanks + " ");
            error(SYNTAX, length - 1, setup.substring(0, setup.length() - 1) + blanks + "!");
        }
        error(SYNTAX, 0, "");
        error(SYNTAX, 1, " ");
        error(SYNTAX, 799, "\n".repeat(799));
        error(SYNTAX, 800, " ".repeat(800));
        error(SYNTAX, 0, "!".repeat(800));
        error(SYNTAX, 0, "s".repeat(800));
        error(SYNTAX, 0, "1".repeat(800));
        error(SYNTAX, 799, " ".repeat(799) + ";");
        error(RANGE, 5, "shop " + "1".repeat(795));
        error(SYNTAX, 800, "shop " + "0".repeat(795));
        error(RANGE, 21, "shop 1 1 1 1 1;event " + "a".repeat(779));
    }

    /** Spaces and line feeds separate tokens; what is no letter, digit or sign of its own is invalid. */
    private static void eachByte() {
        String rest = "1 1 1 1 1;" + REST;
        String setup = "shop " + rest;
        for (int value = 1; value < 256; value++) {
            char sign = (char) value;
            boolean blank = value == 32 || value == 10;
            boolean digit = value >= '0' && value <= '9';
            boolean letter = value >= 'a' && value <= 'z';
            outcome(blank || digit, letter ? 0 : 4, "shop" + sign + rest);
            outcome(blank, 0, sign + setup);
            outcome(blank, setup.length(), setup + sign);
            // The semicolon may stand in these places, but then it is the next one that may not.
            int after = value == ';' ? 1 : 0;
            outcome(blank || digit, 14 + after, "shop 1 1 1 1 1" + sign + ";" + REST);
            outcome(blank, 15, "shop 1 1 1 1 1;" + sign + REST);
            outcome(blank || letter, 22 + after, "shop 1 1 1 1 1;event a" + sign + ";place a;");
        }
    }

    private static void outcome(boolean fine, int position, String text) {
        if (fine) {
            good(text);
        } else {
            error(SYNTAX, position, text);
        }
    }

    // ---- the shop before and after

    private static ProphecyShop busy() {
        ProphecyShop s = Checks.after("sell ben plain rain inn 0 1 30; sell ada vague war 0 9 5; happen rain mill;"
            + "pass 1; ask 0; pass 1;");
        s.save(1);
        s.ask(1);
        s.sellDenial(2, 1, 1, 0, 9, 20);
        s.happen(1, 1);
        s.writeProphecy(2);
        return s;
    }

    /** With an error the shop stays as it is, and so do the changes, the slots and the output. */
    private static void errorLeavesAll() {
        String[] texts = {"", "shop", "shop 7 7 7 7 7;event x;place y;customer z 7 7;owl 7;owl 10;",
            "shop 7 7 7 7 7;event x;place y;customer z 7 7;owl 7;!", "pass 1;"};
        String untouched = View.ofAll(busy());
        for (String text : texts) {
            ProphecyShop s = busy();
            Checks.put(s, text);
            Checks.due("4: an error in " + text, s.load() == 0, false);
            String error = "error " + s.errorCode() + " at " + s.errorPosition();
            Checks.due("4: all else stays after " + text, View.ofAll(s).replace(error, "error 0 at -1"), untouched);
        }
    }

    private static void errorAfterError() {
        ProphecyShop s = new ProphecyShop();
        String[] texts = {"shop 1 0", "", "shop 1 1 1 1 1;event a;event a", "shop 1 1 1 1 1;" + lines("event", 7, ";")};
        int[] codes = {RANGE, SYNTAX, NAME, MANY};
        int[] positions = {7, 0, 29, 63};
        for (int i = 0; i < texts.length; i++) {
            Checks.put(s, texts[i]);
            Checks.due("4: load of " + texts[i], s.load(), codes[i]);
            Checks.due("6: only the latest", s.errorCode(), codes[i]);
            Checks.due("7: only the latest", s.errorPosition(), positions[i]);
        }
        Checks.put(s, "shop 1 1 1 1 1;event a;place a;");
        Checks.due("4: nothing is left of the errors", s.load(), 0);
        Checks.due("6: no error", s.errorCode(), 0);
        Checks.due("7: no position", s.errorPosition(), NONE);
        Checks.due("12: nobody", s.customerCount(), 0);
    }

    /** Without an error a new shop is created, as if it were the first one. */
    private static void afterLoad() {
        String setup = "shop 50 3 4 50 100;event wind;place sea;place hill;customer dan 70 7;owl 2;";
        ProphecyShop again = busy();
        Checks.put(again, setup);
        Checks.due("4: load", again.load(), 0);
        Checks.due("52: the output is not told to change", again.outputByte(0), 'c');
        again.writeQueue();
        ProphecyShop once = Checks.loaded(setup);
        Checks.due("4: as if it were the first one", View.of(again), View.of(once));
        Checks.missing("4: what was sold is gone", again, () -> again.stateOf(0));
        Checks.missing("4: what there was is gone", again, () -> again.happen(1, 0));
        Checks.missing("4: who there was is gone", again, () -> again.purse(1));
        Checks.badState("4: nothing can be undone", again, () -> again.undo());
        for (int slot = 0; slot < 2; slot++) {
            int empty = slot;
            Checks.noSuchElement("4: slot " + slot + " is empty", () -> {
                ProphecyShop s = busy();
                s.save(0);
                Checks.put(s, setup);
                s.load();
                return s;
            }, s -> s.restore(empty));
        }
        Checks.due("4: a day may pass", again.advance(60), 0);
        Checks.due("8: from day 0", again.day(), 60);
    }
}
