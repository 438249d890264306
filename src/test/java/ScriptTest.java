/** Promise 5 (runScript), with the errors that 6 and 7 tell of scripts. */
public final class ScriptTest {
    private static final int NONE = ProphecyShop.NONE;
    private static final int SYNTAX = ProphecyShop.SYNTAX;
    private static final int RANGE = ProphecyShop.OUT_OF_RANGE;
    private static final int NAME = ProphecyShop.WRONG_NAME;
    private static final int MANY = ProphecyShop.TOO_MANY;

    public static void main(String[] args) {
        commandsAreTheMethods();
        executionEnds();
        fortyCommands();
        repeats();
        scriptIsOneChange();
        errorsOfSell();
        errorsOfOtherCommands();
        errorsOfRepeat();
        tooManyCommands();
        scriptAfterScript();
        Checks.end("ScriptTest");
    }

    /** The error stands at the bar, which is no part of the text. */
    private static void error(int code, String marked) {
        ProphecyShop s = new ProphecyShop();
        s.sellPlain(1, 0, 0, 0, 1, 1);
        String before = View.ofState(s);
        int at = marked.indexOf('|');
        Checks.put(s, marked.substring(0, at) + marked.substring(at + 1));
        Checks.due("5: script " + marked, s.runScript(), NONE);
        Checks.due("6: error code of " + marked, s.errorCode(), code);
        Checks.due("7: error position of " + marked, s.errorPosition(), at);
        Checks.due("5: the text is emptied", s.append(0, 0, 0, 0, 0), 0);
        Checks.due("5: nothing is executed", View.ofState(s), before);
        Checks.due("5: no change", s.undoCount(), 1);
    }

    private static ProphecyShop run(String script, int executed) {
        ProphecyShop s = new ProphecyShop();
        Checks.due("5: script " + script, Checks.script(s, script), executed);
        Checks.due("6: no error in " + script, s.errorCode(), 0);
        Checks.due("7: no error in " + script, s.errorPosition(), NONE);
        Checks.due("5: the text is emptied", s.append(0, 0, 0, 0, 0), 0);
        Checks.due("5: one change", s.undoCount(), 1);
        return s;
    }

    private static void commandsAreTheMethods() {
        ProphecyShop s = run("sell ada plain rain mill 2 3 50; sell ben vague war 0 60 100;"
            + "sell cai never rain pass 99 1 20; happen war inn; ask 1; pass 2; happen rain mill; ask 0; ask 2;"
            + "pass 60;", 10);
        ProphecyShop t = new ProphecyShop();
        t.sellPlain(0, 0, 1, 2, 3, 50);
        t.sellVague(1, 1, 0, 60, 100);
        t.sellDenial(2, 0, 2, 99, 1, 20);
        t.happen(1, 0);
        t.ask(1);
        t.advance(2);
        t.happen(0, 1);
        t.ask(0);
        t.ask(2);
        t.advance(60);
        Checks.due("5: a script does what its methods do", View.ofState(s), View.ofState(t));
        run("", 0);
        run(" \n ", 0);
        run("pass 1;pass1;\npass\n01 ;", 3);
        run("sell ada plain rain inn 0 1 999;", 0);
        run("sell ben plain rain inn 99 60 300;", 1);
    }

    private static void executionEnds() {
        ProphecyShop s = run("happen rain inn; happen war inn; happen rain inn; pass 1;", 2);
        Checks.due("5: commands before stay in effect", s.timesHappened(1, 0), 1);
        Checks.due("5: commands after are left out", s.day(), 0);
        run("ask 0; pass 1;", 0);
        run("pass 1; sell cai vague rain 0 1 21; pass 1;", 1);
        run("sell cai vague rain 0 1 20; ask 0; ask 0; pass 1;", 2);
        s = run("repeat 3 (happen rain mill; repeat 2 (pass 1;); happen rain mill; ask 5;); pass 1;", 4);
        Checks.due("5: the end of all brackets", s.day(), 2);
        s = new ProphecyShop();
        for (int i = 0; i < 166; i++) {
            s.advance(60);
        }
        Checks.due("5: no day after 9999", Checks.script(s, "pass 39; pass 1; happen rain inn;"), 1);
        Checks.due("8: day", s.day(), 9999);
    }

    private static void fortyCommands() {
        ProphecyShop s = run("repeat 20 (pass 1; pass 2; pass 4;);", 40);
        Checks.due("5: 13 rounds and one command", s.day(), 13 * 7 + 1);
        s = run("repeat 20 (pass 1; pass 1;); pass 60;", 40);
        Checks.due("5: just forty", s.day(), 40);
        s = run("repeat 13 (pass 1; pass 1; pass 1;); repeat 1 (pass 1;); pass 60;", 40);
        Checks.due("5: a repeat is not counted", s.day(), 40);
        s = run("repeat 13 (pass 1; pass 1; pass 1;);", 39);
        Checks.due("5: less than forty", s.day(), 39);
        run("repeat 20(repeat 20(pass 1;););", 40);
    }

    private static void repeats() {
        ProphecyShop s = run("repeat 0 (pass 1;); pass 2;", 1);
        Checks.due("5: no round", s.day(), 2);
        s = run("repeat 1 (pass 1;);", 1);
        Checks.due("5: one round", s.day(), 1);
        s = run("repeat 3 (pass 1; repeat 2 (pass 4;); repeat 0 (pass 60;); repeat 1 (); pass 10;);", 12);
        Checks.due("5: rounds in rounds", s.day(), 3 * (1 + 8 + 10));
        s = run("repeat 0 (repeat 5 (pass 1;); pass 1;); repeat 020 (); pass 1;", 1);
        Checks.due("5: inner repeats of no round", s.day(), 1);
        s = run("repeat 2 (repeat 3 (pass 1;););", 6);
        Checks.due("5: an inner repeat alone", s.day(), 6);
        StringBuilder empty = new StringBuilder("repeat 20(");
        for (int i = 0; i < 28; i++) {
            empty.append("repeat 20();");
        }
        run(empty + "); pass 1;", 1);
        run("repeat 2 (repeat 2 (pass 1;); repeat 2 (pass 1;);); repeat 2 (pass 1;);", 10);
    }

    private static void scriptIsOneChange() {
        ProphecyShop s = new ProphecyShop();
        s.sellPlain(1, 0, 0, 0, 1, 1);
        String before = View.ofState(s);
        Checks.script(s, "pass 1; ask 0; happen rain inn; pass 4; sell ada vague war 0 1 1;");
        Checks.due("5: one change", s.undoCount(), 2);
        s.undo();
        Checks.due("5: undone as one", View.ofState(s), before);
        Checks.due("5: an empty script is a change", Checks.script(s, ""), 0);
        Checks.due("5: recorded", s.undoCount(), 2);
        Checks.due("5: a script that ends at once is a change", Checks.script(s, "ask 9;"), 0);
        Checks.due("5: recorded too", s.undoCount(), 3);
        Checks.due("5: an error is no change", Checks.script(s, "pass 1; pass"), NONE);
        Checks.due("5: not recorded", s.undoCount(), 3);
    }

    private static void errorsOfSell() {
        error(SYNTAX, "sell|");
        error(SYNTAX, "sell |;");
        error(SYNTAX, "sell |0 plain rain inn 0 1 1;");
        error(NAME, "sell |bob plain rain inn 0 1 1;");
        error(NAME, "sell |rain plain rain inn 0 1 1;");
        error(RANGE, "sell |abcdefg plain rain inn 0 1 1;");
        error(SYNTAX, "sell ada |rain inn 0 1 1;");
        error(SYNTAX, "sell ada |denial rain inn 0 1 1;");
        error(SYNTAX, "sell ada |abcdefgh rain inn 0 1 1;");
        error(SYNTAX, "sell ada |plainly rain inn 0 1 1;");
        error(NAME, "sell ada plain |inn inn 0 1 1;");
        error(NAME, "sell ada plain rain |rain 0 1 1;");
        error(RANGE, "sell ada plain |raining inn 0 1 1;");
        error(RANGE, "sell ada plain rain |taverns 0 1 1;");
        error(SYNTAX, "sell ada plain rain |0 1 1;");
        error(SYNTAX, "sell ada vague rain |inn 0 1 1;");
        error(NAME, "sell ada never rain |sea 0 1 1;");
        error(RANGE, "sell ada plain rain inn |100 1 1;");
        error(RANGE, "sell ada vague rain 99 |0 1;");
        error(RANGE, "sell ada never rain inn 0 |61 1;");
        error(RANGE, "sell ada plain rain inn 0 60 |0;");
        error(RANGE, "sell ada plain rain inn 0 1 |1000;");
        error(SYNTAX, "sell ada plain rain inn 0 1 |;");
        error(SYNTAX, "sell ada plain rain inn 0 1 999|");
        error(SYNTAX, "sell ada vague rain 0 1 999 |1;");
    }

    private static void errorsOfOtherCommands() {
        error(SYNTAX, "|;");
        error(SYNTAX, "|wait 1;");
        error(SYNTAX, "|mass 1;");
        error(SYNTAX, "|tell ada vague rain 0 1 1;");
        error(SYNTAX, "|repeating 1;");
        error(SYNTAX, "|7;");
        error(SYNTAX, "|)");
        error(SYNTAX, "|(");
        error(SYNTAX, "pass 1;|;");
        error(SYNTAX, "pass 1; |Pass 1;");
        error(SYNTAX, "pass 1; |\u00ff");
        error(SYNTAX, "pass 1;|.");
        error(SYNTAX, "happen|");
        error(SYNTAX, "happen |1 inn;");
        error(NAME, "happen |inn rain;");
        error(NAME, "happen rain |war;");
        error(NAME, "happen rain |in;");
        error(NAME, "happen rain |inns;");
        error(RANGE, "happen rain |innings;");
        error(RANGE, "happen |weather inn;");
        error(SYNTAX, "happen rain inn|");
        error(SYNTAX, "happen rain inn |mill;");
        error(SYNTAX, "ask |ada;");
        error(RANGE, "ask |24;");
        error(SYNTAX, "ask 23|");
        error(SYNTAX, "ask 0 |ask 1;");
        error(RANGE, "pass |0;");
        error(RANGE, "pass |61;");
        error(RANGE, "pass |99999999999999999999;");
        error(SYNTAX, "pass |;");
        error(SYNTAX, "pass 60|");
        error(SYNTAX, "pass 60  \n|");
    }

    private static void errorsOfRepeat() {
        error(SYNTAX, "repeat |(pass 1;);");
        error(RANGE, "repeat |21 (pass 1;);");
        error(SYNTAX, "repeat 2 |pass 1;");
        error(SYNTAX, "repeat 2|");
        error(SYNTAX, "repeat 2 |);");
        error(SYNTAX, "repeat 2 (|");
        error(SYNTAX, "repeat 2 (pass 1;|");
        error(SYNTAX, "repeat 2 (pass 1|);");
        error(SYNTAX, "repeat 2 (pass 1;)|");
        error(SYNTAX, "repeat 2 (pass 1;) |pass 1;");
        error(SYNTAX, "repeat 2 (pass 1;);|)");
        error(SYNTAX, "repeat 2 (pass 1;|;);");
        error(SYNTAX, "repeat 2 (|(pass 1;););");
        error(MANY, "repeat 1(repeat 1(repeat 1|(pass 1;);););");
        error(MANY, "repeat 1(repeat 1(pass 1;);repeat 1(repeat 1|(");
        error(RANGE, "repeat 1(repeat 1(repeat |21(");
        error(SYNTAX, "repeat 1(repeat 1(repeat |(");
        error(SYNTAX, "repeat 1(repeat 1(repeat 1 |)");
        error(SYNTAX, "repeat 1(repeat 1(pass 1;);|");
        run("repeat 1(repeat 1(pass 1;););repeat 1(repeat 1(pass 1;);repeat 1(pass 1;););", 3);
    }

    private static void tooManyCommands() {
        StringBuilder thirty = new StringBuilder();
        for (int i = 0; i < 30; i++) {
            thirty.append("pass 1;");
        }
        run(thirty.toString(), 30);
        error(MANY, thirty + "|pass 1;");
        error(MANY, thirty + "|sell");
        error(MANY, thirty + "|happen");
        error(MANY, thirty + "|ask 99;");
        error(MANY, thirty + "|repeat 0 ();");
        error(SYNTAX, thirty + "|plain");
        error(SYNTAX, thirty + "|;");
        String inBrackets = "repeat 1 (" + thirty.substring(0, 29 * 7);
        run(inBrackets + ");", 29);
        error(MANY, inBrackets + "|pass 1;);");
        error(MANY, inBrackets + ");|pass 1;");
        StringBuilder repeats = new StringBuilder();
        for (int i = 0; i < 30; i++) {
            repeats.append("repeat 1();");
        }
        run(repeats.toString(), 0);
        error(MANY, repeats + "|repeat 1();");
        StringBuilder nested = new StringBuilder();
        for (int i = 0; i < 15; i++) {
            nested.append("repeat 1(repeat 1(););");
        }
        run(nested.toString(), 0);
        error(MANY, nested + "|repeat 1();");
    }

    /** Nothing of a script, right or wrong, is left in the next one. */
    private static void scriptAfterScript() {
        ProphecyShop s = new ProphecyShop();
        StringBuilder thirty = new StringBuilder();
        StringBuilder closed = new StringBuilder();
        for (int i = 0; i < 15; i++) {
            thirty.append("repeat 0();repeat 1();");
            closed.append("repeat 1(pass 1;);");
        }
        String last = thirty.substring(0, thirty.length() - "repeat 1();".length()) + "pass 1;";
        for (int i = 0; i < 3; i++) {
            Checks.due("5: thirty commands", Checks.script(s, last), 1);
            Checks.due("5: fifteen in brackets", Checks.script(s, closed.toString()), 15);
            Checks.due("5: a bracket is not closed", Checks.script(s, "repeat 1(repeat 1("), NONE);
            Checks.due("5: a bracket is closed too often", Checks.script(s, ");"), NONE);
            Checks.due("7: the bracket", s.errorPosition(), 0);
            Checks.due("5: two brackets", Checks.script(s, "repeat 1(repeat 2(pass 1;););"), 2);
        }
        Checks.due("8: all days", s.day(), 3 * 18);
    }
}
