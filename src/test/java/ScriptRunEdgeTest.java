import java.util.function.Supplier;

/** The edges of the execution of promise 5 (runScript): how long it goes on, what ends it, and what it changes. */
public final class ScriptRunEdgeTest {
    private static final int NONE = ProphecyShop.NONE;
    private static final int SYNTAX = ProphecyShop.SYNTAX;
    private static final int RANGE = ProphecyShop.OUT_OF_RANGE;
    private static final int NAME = ProphecyShop.WRONG_NAME;
    private static final int MANY = ProphecyShop.TOO_MANY;

    public static void main(String[] args) {
        fortyCommands();
        repeatTimes();
        endsBeforeASale();
        endsBeforeAHappening();
        endsBeforeARequest();
        endsBeforeADay();
        endsAfterAnyCommand();
        emptyScripts();
        errorLeavesAll();
        errorsOneAfterAnother();
        oneChangeOfMany();
        Checks.end("ScriptRunEdgeTest");
    }

    private static ProphecyShop good(String text, int executed) {
        ProphecyShop s = new ProphecyShop();
        Checks.put(s, text);
        Checks.due("5: script " + text, s.runScript(), executed);
        Checks.due("6: no error in " + text, s.errorCode(), 0);
        Checks.due("7: no error position in " + text, s.errorPosition(), NONE);
        Checks.due("5: the text is emptied", s.truncate(0), 0);
        Checks.due("5: one change, " + text, s.undoCount(), 1);
        return s;
    }

    /** The execution ends after 40 commands; repeat itself is not counted. */
    private static void fortyCommands() {
        Checks.due("5: 39", good("repeat 13(pass 1;pass 1;pass 1;);", 39).day(), 39);
        Checks.due("5: 40", good("repeat 13(pass 1;pass 1;pass 1;);pass 1;", 40).day(), 40);
        Checks.due("5: 41", good("repeat 13(pass 1;pass 1;pass 1;);pass 1;pass 9;", 40).day(), 40);
        Checks.due("5: 40 at the end of a round", good("repeat 20(pass 1;pass 1;);pass 9;", 40).day(), 40);
        Checks.due("5: 40 within a round", good("repeat 20(pass 1;pass 2;pass 3;);", 40).day(), 13 * 6 + 1);
        Checks.due("5: 40 in two brackets", good("repeat 20(repeat 20(pass 1;);pass 9;);", 40).day(), 20 + 9 + 19);
        Checks.due("5: forty of thirty", good("pass 1;".repeat(28) + "repeat 20(pass 1;);", 40).day(), 40);
        String empty = "repeat 20();".repeat(28);
        Checks.due("5: many repeats are no commands", good("repeat 20(" + empty + ");pass 1;", 1).day(), 1);
        Checks.due("5: no command after 40", good("repeat 20(pass 1;pass 1;);ask 9;", 40).undoCount(), 1);
        ProphecyShop s = good("repeat 20(pass 1;happen rain inn;);happen war inn;", 40);
        Checks.due("5: the fortieth is executed", s.timesHappened(0, 0), 20);
        Checks.due("5: the 41st is not", s.timesHappened(1, 0), 0);
        ProphecyShop t = good("pass 1;repeat 20(happen rain inn;pass 1;);", 40);
        Checks.due("5: the fortieth is executed", t.timesHappened(0, 0), 20);
        Checks.due("5: the 41st is not", t.day(), 20);
        // The count begins anew with each script.
        Checks.due("5: forty again", Checks.script(t, "repeat 20(pass 1;pass 1;pass 1;);"), 40);
    }

    private static void repeatTimes() {
        int[] times = {0, 1, 2, 19, 20};
        for (int n : times) {
            Checks.due("5: times " + n, good("repeat " + n + "(pass 2;);", n).day(), 2 * n);
            Checks.due("5: inner times " + n, good("repeat 2(repeat " + n + "(pass 1;););", 2 * n).day(), 2 * n);
            Checks.due("5: outer times " + n, good("repeat " + n + "(repeat 2(pass 1;););", 2 * n).day(), 2 * n);
            Checks.due("5: then the next", good("repeat " + n + "();pass 3;", 1).day(), 3);
        }
        Checks.due("5: none of none", good("repeat 0(repeat 0(pass 1;);pass 1;);", 0).day(), 0);
        Checks.due("5: the same repeat again and again",
            good("repeat 3(repeat 2(pass 1;);repeat 0(pass 60;);repeat 1(pass 10;););", 9).day(), 36);
    }

    // ---- what ends the execution

    /** The script ends before the command: the commands before are in effect, the command and those after are not. */
    private static void ends(String what, Supplier<ProphecyShop> made, String command) {
        ProphecyShop s = made.get();
        int handled = s.handledRequests();
        int day = s.day();
        String rest = "happen war pass; sell ada vague war 0 1 1;";
        Checks.due("5: ends before " + what, Checks.script(s, command + rest), 0);
        Checks.due("5: nothing is done by " + what, View.ofState(s), View.ofState(made.get()));
        Checks.due("6: no error, " + what, s.errorCode(), 0);
        Checks.due("5: a change all the same, " + what, s.undoCount() > 0, true);
        ProphecyShop t = made.get();
        Checks.due("5: one before " + what, Checks.script(t, "happen war pass;" + command + rest), 1);
        Checks.due("5: it stays in effect before " + what, t.timesHappened(1, 2), 1);
        Checks.due("5: nothing after " + what, t.day() + t.handledRequests(), day + handled);
    }

    private static void goesOn(String what, Supplier<ProphecyShop> made, String command) {
        Checks.due("5: goes on after " + what, Checks.script(made.get(), command + " happen war pass;"), 2);
    }

    private static void endsBeforeASale() {
        Supplier<ProphecyShop> fresh = ProphecyShop::new;
        goesOn("the whole purse", fresh, "sell ada plain rain inn 0 1 80;");
        ends("a coin more", fresh, "sell ada plain rain inn 0 1 81;");
        goesOn("the whole purse", fresh, "sell cai vague rain 0 1 20;");
        ends("a coin more", fresh, "sell cai vague rain 0 1 21;");
        goesOn("the whole purse", fresh, "sell ben never rain inn 0 1 300;");
        ends("a coin more", fresh, "sell ben never rain inn 0 1 301;");
        ends("the highest price", fresh, "sell ben never rain inn 0 1 999;");
        Supplier<ProphecyShop> nearlyFull = () -> Checks.after("sell ben vague war 0 1 1;".repeat(23));
        Supplier<ProphecyShop> full = () -> Checks.after("sell ben vague war 0 1 1;".repeat(24));
        String[] sales = {"plain rain inn", "vague rain", "never rain inn"};
        for (String sale : sales) {
            goesOn("the 24th", nearlyFull, "sell ben " + sale + " 0 1 1;");
            ends("the 25th", full, "sell ben " + sale + " 0 1 1;");
        }
    }

    private static void endsBeforeAHappening() {
        Supplier<ProphecyShop> once = () -> Checks.after("happen rain inn;");
        goesOn("another place", once, "happen rain mill;");
        goesOn("another event", once, "happen war inn;");
        ends("twice on a day", once, "happen rain inn;");
        goesOn("the next day", () -> Checks.after("happen rain inn; pass 1;"), "happen rain inn;");
        String day = "happen rain inn; happen rain mill; happen rain pass; pass 1;";
        Supplier<ProphecyShop> nearlySixty = () -> {
            ProphecyShop s = Checks.after("repeat 10(" + day + ");");
            Checks.script(s, "repeat 9(" + day + "); happen rain inn; ");
            return s;
        };
        ProphecyShop s = nearlySixty.get();
        Checks.due("47: 58 are noted", s.timesHappened(0, 0) + s.timesHappened(0, 1) + s.timesHappened(0, 2), 58);
        goesOn("the 59th", nearlySixty, "happen rain mill;");
        Checks.due("5: ends before the 61st",
            Checks.script(s, "happen rain mill; happen rain pass; happen war inn; happen war mill;"), 2);
        Checks.due("5: ends before the 61st again", Checks.script(s, "pass 1; happen rain inn; pass 1;"), 1);
    }

    private static void endsBeforeARequest() {
        Supplier<ProphecyShop> none = ProphecyShop::new;
        ends("no prophecy", none, "ask 0;");
        ends("no prophecy", none, "ask 23;");
        Supplier<ProphecyShop> two = () -> Checks.after("sell ben vague war 0 9 1; sell ben vague rain 0 9 1; ask 0;");
        goesOn("the last prophecy", two, "ask 1;");
        ends("one after the last", two, "ask 2;");
        ends("a request in the queue", two, "ask 0;");
        Supplier<ProphecyShop> all = () -> Checks.after("sell ben vague war 0 9 1;".repeat(24));
        goesOn("the 24th prophecy", all, "ask 23;");
        String again = "ask 1; pass 1; ask 0; ask 1;";
        Checks.due("5: asked for again when it was handled", Checks.script(two.get(), again), 4);
    }

    private static void endsBeforeADay() {
        goesOn("day 9999", () -> Shops.onDay(9939), "pass 60;");
        ends("day 10000", () -> Shops.onDay(9940), "pass 60;");
        goesOn("day 9999", () -> Shops.onDay(9998), "pass 1;");
        ends("day 10000", () -> Shops.onDay(9998), "pass 2;");
        ends("day 10000", () -> Shops.onDay(9999), "pass 1;");
        ends("day 10059", () -> Shops.onDay(9999), "pass 60;");
        ProphecyShop s = Shops.onDay(9990);
        Checks.due("5: nine days more", Checks.script(s, "repeat 20(pass 1;);"), 9);
        Checks.due("8: the last day", s.day(), 9999);
        String noDays = "sell ada plain rain inn 99 60 1; ask 0; happen rain inn;";
        Checks.due("5: other commands go on", Checks.script(s, noDays), 3);
    }

    /** The command that would throw ends every bracket, in whatever round. */
    private static void endsAfterAnyCommand() {
        Checks.due("5: in the first round", good("repeat 3(pass 1;ask 0;);pass 9;", 1).day(), 1);
        String second = "repeat 3(happen rain inn;repeat 1(pass 1;);sell ada vague war 0 1 41;);pass 9;";
        Checks.due("5: in the second round", good(second, 5).day(), 2);
        Checks.due("5: in an inner round", good("repeat 3(repeat 3(happen war inn;);pass 1;);pass 9;", 1).day(), 0);
        Checks.due("5: at once", good("ask 0;pass 9;", 0).day(), 0);
        Checks.due("5: as the fortieth", good("repeat 13(pass 1;pass 1;pass 1;);ask 0;pass 9;", 39).day(), 39);
    }

    // ---- the change

    private static void emptyScripts() {
        String[] texts = {"", " ", "\n", "repeat 0();", "repeat 20(repeat 20(););", "repeat 0(pass 1;);"};
        for (String text : texts) {
            ProphecyShop s = good(text, 0);
            Checks.due("5: nothing has changed by " + text, View.ofState(s), View.ofState(new ProphecyShop()));
            Checks.due("54: it is undone, " + text, s.undo(), 0);
        }
    }

    private static ProphecyShop busy() {
        ProphecyShop s = Checks.after("sell ben plain rain inn 0 1 30; sell ada vague war 0 9 5; happen rain mill;"
            + "pass 1; ask 0; pass 1;");
        s.save(0);
        s.ask(1);
        s.sellDenial(2, 1, 1, 0, 9, 20);
        s.writeProphecy(2);
        return s;
    }

    /** If the text has an error, the call is not a change, and nothing of the script is executed. */
    private static void errorLeavesAll() {
        String[] texts = {"!", "pass 1", "pass 1; ask 24;", "pass 1; happen rain sea;", "repeat 2(pass 1;",
            "pass 1;".repeat(31), "shop 1 1 1 1 1;event a;place a;"};
        String untouched = View.ofAll(busy());
        for (String text : texts) {
            ProphecyShop s = busy();
            Checks.put(s, text);
            Checks.due("5: an error in " + text, s.runScript(), NONE);
            String error = "error " + s.errorCode() + " at " + s.errorPosition();
            Checks.due("5: all else stays after " + text, View.ofAll(s).replace(error, "error 0 at -1"), untouched);
        }
    }

    private static void errorsOneAfterAnother() {
        ProphecyShop s = new ProphecyShop();
        Checks.due("6: no such call", s.errorCode(), 0);
        Checks.due("7: no such call", s.errorPosition(), NONE);
        String[] texts = {"pass 0;", "pass", "happen rain sea;", "repeat 1(repeat 1(repeat 1(", "pass 1;", "!", "",
            "ask 24;"};
        int[] codes = {RANGE, SYNTAX, NAME, MANY, 0, SYNTAX, 0, RANGE};
        int[] positions = {5, 4, 12, 26, NONE, 0, NONE, 4};
        for (int i = 0; i < texts.length; i++) {
            Checks.due("5: script " + texts[i], Checks.script(s, texts[i]) == NONE, codes[i] != 0);
            Checks.due("6: only the latest", s.errorCode(), codes[i]);
            Checks.due("7: only the latest", s.errorPosition(), positions[i]);
        }
        Checks.put(s, "shop 1 1 1 1 1;event a;place a;");
        s.load();
        Checks.due("6: load comes after the script", s.errorCode(), 0);
        Checks.due("7: load comes after the script", s.errorPosition(), NONE);
        Checks.put(s, "shop 1 1 1 1 201;");
        s.load();
        Checks.script(s, "pass 1;");
        Checks.due("6: the script comes after load", s.errorCode(), 0);
        Checks.due("7: the script comes after load", s.errorPosition(), NONE);
    }

    /** A script is recorded as one change, however many commands it has. */
    private static void oneChangeOfMany() {
        ProphecyShop s = new ProphecyShop();
        for (int i = 1; i <= 9; i++) {
            Checks.due("5: forty commands", Checks.script(s, "repeat 20(pass 1;pass 1;);"), 40);
            Checks.due("53: as one change", s.undoCount(), Math.min(i, 8));
        }
        for (int i = 8; i >= 1; i--) {
            Checks.due("54: forty days are undone", s.undo(), i - 1);
            Checks.due("54: day", s.day(), 40 * i);
        }
        Checks.badState("54: the first script is forgotten", s, () -> s.undo());
    }
}
