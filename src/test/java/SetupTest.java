/** Promises 4 (load), 6 (errorCode) and 7 (errorPosition). */
public final class SetupTest {
    private static final int SYNTAX = ProphecyShop.SYNTAX;
    private static final int RANGE = ProphecyShop.OUT_OF_RANGE;
    private static final int NAME = ProphecyShop.WRONG_NAME;
    private static final int MANY = ProphecyShop.TOO_MANY;
    private static final String HEAD = "shop 10 1 5 100 50;";
    private static final String SHORT = HEAD + "event rain;place inn;";

    public static void main(String[] args) {
        goodSetups();
        loadOpensANewShop();
        errorsLeaveTheShop();
        errorsOfTheHead();
        errorsOfNames();
        errorsOfCustomersAndOwls();
        errorsOfTokens();
        tooMany();
        loadAgainAndAgain();
        latestErrorOnly();
        Checks.end("SetupTest");
    }

    /** The error stands at the first bar; the bar itself is no part of the text. */
    private static void error(int code, String marked) {
        ProphecyShop s = new ProphecyShop();
        int at = marked.indexOf('|');
        Checks.put(s, marked.substring(0, at) + marked.substring(at + 1));
        Checks.due("4: load of " + marked, s.load(), code);
        Checks.due("6: error code of " + marked, s.errorCode(), code);
        Checks.due("7: error position of " + marked, s.errorPosition(), at);
        Checks.due("4: the text is emptied", s.append(0, 0, 0, 0, 0), 0);
        Checks.due("4: the old shop stays", s.customerCount(), 3);
    }

    private static ProphecyShop good(String setup) {
        ProphecyShop s = Checks.loaded(setup);
        Checks.due("6: no error code after " + setup, s.errorCode(), 0);
        Checks.due("7: no error position after " + setup, s.errorPosition(), ProphecyShop.NONE);
        Checks.due("4: the text is emptied", s.append(0, 0, 0, 0, 0), 0);
        return s;
    }

    private static void goodSetups() {
        ProphecyShop s = good(SHORT);
        Checks.due("4: cash", s.cash(), 10);
        Checks.due("4: customers may be missing", s.customerCount(), 0);
        Checks.due("4: owls may be missing", s.idleOwls(), 0);
        s = good("shop 99999 9 99 200 200;event a;event b;event c;event d;event e;event ffffff;"
            + "place a;place b;place c;place d;place e;place ffffff;customer a 9999 30;customer b 0 1;"
            + "customer c 1 1;customer d 1 1;customer e 1 1;customer f 1 1;customer g 1 1;customer hhhhhh 8 1;"
            + "owl 9;owl 1;owl 1;owl 1;owl 1;");
        Checks.due("4: most cash", s.cash(), 99999);
        Checks.due("10: most events", s.eventCount(), 6);
        Checks.due("11: most places", s.placeCount(), 6);
        Checks.due("12: most customers", s.customerCount(), 8);
        Checks.due("14: largest purse", s.purse(0), 9999);
        Checks.due("14: last purse", s.purse(7), 8);
        Checks.due("32: most owls", s.idleOwls(), 5);
        s = good("shop 0 1 0 0 0;event event;place place;customer owl 0 1;owl 1;");
        Checks.due("4: keywords are names too", s.customerCount(), 1);
        Checks.due("9: no cash", s.cash(), 0);
        s = good("\n \nshop\n007 0000000000000000000000001 5 100\n\n50 ; event\nrain ; place inn;\n"
            + " customer ada 0080 04 ; \n");
        Checks.due("4: blanks and leading zeros", s.cash(), 7);
        Checks.due("4: purse with leading zeros", s.purse(0), 80);
        s = good("shop3 1 5 100 50;event rain;place inn;customer bo9 2;customer al 7 1;owl4;");
        Checks.due("4: words and numbers need no blank between", s.purse(0), 9);
    }

    private static void loadOpensANewShop() {
        ProphecyShop s = new ProphecyShop();
        Checks.script(s, "sell ben plain rain inn 0 1 30; happen war mill; pass 1; ask 0; pass 1; ask 0;");
        s.writeQueue();
        s.save(0);
        s.save(1);
        Checks.put(s, "shop 10 1 5 100 50;event rain;event war;place inn;place mill;customer ada 7 2;owl 2;owl 3;");
        Checks.due("4: answer", s.load(), 0);
        Checks.due("4: day", s.day(), 0);
        Checks.due("4: cash", s.cash(), 10);
        Checks.due("4: purse", s.purse(0), 7);
        Checks.due("4: no prophecy", s.prophecyCount(), 0);
        Checks.due("4: nothing happened", s.timesHappened(1, 1), 0);
        Checks.due("4: owls are idle", s.idleOwls(), 2);
        Checks.due("4: owls carry nothing", s.owlCoins(0), 0);
        Checks.due("4: empty queue", s.queueLength(), 0);
        Checks.due("4: no handled requests", s.handledRequests(), 0);
        Checks.due("4: no refunds", s.refundTotal(), 0);
        Checks.due("4: truth", s.truthShare(), 0.0);
        Checks.due("4: price", s.meanPrice(), 0.0);
        Checks.due("4: no contradiction", s.contradictions(), 0);
        Checks.due("4: no undo", s.undoCount(), 0);
        Checks.due("4: load does not write", Checks.output(s), "0");
        Checks.refused("4: slot 0 is empty", s, java.util.NoSuchElementException.class, () -> s.restore(0));
        Checks.refused("4: slot 1 is empty", s, java.util.NoSuchElementException.class, () -> s.restore(1));
        s.sellVague(0, 1, 0, 1, 7);
        Checks.due("4: the new percentage for vague ones", s.refundOf(0), 3);
        s.advance(1);
        s.ask(0);
        s.advance(1);
        Checks.due("4: owls are made new", s.owlDays(0), 1);
        s.advance(1);
        Checks.due("4: the refund comes to the customer", s.purse(0), 3);
        Checks.due("4: no contradiction later", s.contradictions(), 0);
    }

    private static void errorsLeaveTheShop() {
        ProphecyShop s = new ProphecyShop();
        Checks.script(s, "sell ben plain rain inn 0 1 30; happen war mill; pass 1; ask 0; pass 1;");
        s.advance(1);
        s.save(1);
        s.writeProphecy(0);
        String before = View.ofState(s);
        String[] bad = {"shop 99 9 9 9 9;event x;place y;customer z 5 5;owl 9;owl 10;", "", "shop 1", SHORT + "event"};
        for (String text : bad) {
            Checks.put(s, text);
            Checks.due("4: an error", s.load() != 0, true);
            Checks.due("4: the shop stays", View.ofState(s), before);
            Checks.due("4: the changes stay", s.undoCount(), 2);
            Checks.due("4: the output stays", Checks.output(s), "ben:rain@inn 0-0");
        }
        s.undo();
        Checks.due("4: undo works as before", s.day(), 2);
        Checks.due("4: the slot stays", s.restore(1), 3);
        Checks.due("4: the shop of the slot", View.ofState(s), before);
    }

    private static void errorsOfTheHead() {
        error(SYNTAX, "|");
        error(SYNTAX, "  \n|");
        error(SYNTAX, "|store 1 1 1 1 1;");
        error(SYNTAX, "|sho");
        error(SYNTAX, "|chop 1 1 1 1 1;");
        error(SYNTAX, "|shops 1");
        error(SYNTAX, "|shopx 1");
        error(SYNTAX, "shop|");
        error(SYNTAX, "shop |;");
        error(SYNTAX, "shop |ten");
        error(RANGE, "shop |100000");
        error(RANGE, "shop |4294967297 1");
        error(RANGE, "shop |18446744073709551617 1");
        error(RANGE, "shop 99999 |0");
        error(RANGE, "shop 0 |10");
        error(RANGE, "shop 0 9 |100");
        error(RANGE, "shop 0 9 99 |201");
        error(RANGE, "shop 0 9 99 200 |201;");
        error(SYNTAX, "shop 0 9 99 200 |;");
        error(SYNTAX, "shop 0 9 99 200 200|");
        error(SYNTAX, "shop 0 9 99 200 200 |7;");
        error(SYNTAX, "shop 0 9 99 200 200;|");
        error(SYNTAX, "shop |-1 9 99 200 200;");
        error(SYNTAX, "shop 1|,9 99 200 200;");
        error(SYNTAX, "shop |(1 9 99 200 200;");
    }

    private static void errorsOfNames() {
        error(SYNTAX, HEAD + "|place inn;");
        error(SYNTAX, HEAD + "|events rain;");
        error(SYNTAX, HEAD + "event|");
        error(SYNTAX, HEAD + "event |;");
        error(SYNTAX, HEAD + "event |7;");
        error(RANGE, HEAD + "event |abcdefg;");
        error(RANGE, HEAD + "event abcdef; event |abcdefg");
        error(SYNTAX, HEAD + "event rain|");
        error(SYNTAX, HEAD + "event rain |rain;");
        error(SYNTAX, HEAD + "event rain;|");
        error(SYNTAX, HEAD + "event rain;|customer ada 1 1;");
        error(NAME, HEAD + "event rain;event |rain;");
        error(NAME, HEAD + "event a;event |a;");
        error(NAME, HEAD + "event rain;event war;event |rain");
        error(SYNTAX, HEAD + "event rain;place|");
        error(RANGE, HEAD + "event rain;place |abcdefg;");
        error(NAME, HEAD + "event rain;place inn;place mill;place |inn;");
        error(SYNTAX, HEAD + "event rain;place inn|");
        error(SYNTAX, SHORT + "|event war;");
        error(SYNTAX, SHORT + "|;");
        error(SYNTAX, SHORT + "|shop 1 1 1 1 1;");
        error(SYNTAX, SHORT + "|foo");
        good(HEAD + "event rain;place rain;customer rain 1 1;");
        good(HEAD + "event rain;event rai;event ain;place inn;");
    }

    private static void errorsOfCustomersAndOwls() {
        error(SYNTAX, SHORT + "customer|");
        error(SYNTAX, SHORT + "customer |7");
        error(RANGE, SHORT + "customer |abcdefg");
        error(NAME, SHORT + "customer ada 1 1;customer |ada 1 1;");
        error(NAME, SHORT + "customer ada 1 1;customer bo 1 1;customer |bo 1 1;");
        error(RANGE, SHORT + "customer ada |10000 1;");
        error(RANGE, SHORT + "customer ada 9999 |0;");
        error(RANGE, SHORT + "customer ada 0 |31;");
        error(SYNTAX, SHORT + "customer ada 0 30|");
        error(SYNTAX, SHORT + "customer ada 0 30 |1;");
        error(SYNTAX, SHORT + "customer ada |bo 1;");
        error(SYNTAX, SHORT + "customer ada 1 1;|place mill;");
        error(SYNTAX, SHORT + "owl|");
        error(RANGE, SHORT + "owl |0;");
        error(RANGE, SHORT + "owl |10;");
        error(SYNTAX, SHORT + "owl |fast;");
        error(SYNTAX, SHORT + "owl 1|");
        error(SYNTAX, SHORT + "owl 1;|customer ada 1 1;");
        error(SYNTAX, SHORT + "owl 1;|owls 1;");
    }

    private static void errorsOfTokens() {
        error(SYNTAX, "|Shop 1 1 1 1 1;");
        error(SYNTAX, "shop|\t1 1 1 1 1;");
        error(SYNTAX, "shop|\r 1");
        error(SYNTAX, SHORT + "|\u00e9");
        error(SYNTAX, SHORT + "|\u0001");
        error(SYNTAX, SHORT + "|)");
        error(SYNTAX, SHORT + "|(");
        error(SYNTAX, HEAD + "event r|Ain;");
        error(SYNTAX, HEAD + "event |\u007f;");
        error(SYNTAX, HEAD + "event |`;");
        error(SYNTAX, HEAD + "event |{;");
        error(SYNTAX, "shop |/;");
        error(SYNTAX, "shop |:;");
        error(SYNTAX, HEAD + "event rain|!;");
        // The first token with an error counts, whatever comes after it.
        error(RANGE, "shop |100000 0 ! event");
    }

    private static void tooMany() {
        String events = HEAD + "event a;event b;event c;event d;event e;event f;";
        error(MANY, events + "|event g;");
        error(MANY, events + "|event");
        error(SYNTAX, events + "|events g;");
        String places = SHORT + "place b;place c;place d;place e;place f;";
        error(MANY, places + "|place inn;");
        error(SYNTAX, places + "|event g;");
        String customers = SHORT + "customer a 1 1;customer b 1 1;customer c 1 1;customer d 1 1;"
            + "customer e 1 1;customer f 1 1;customer g 1 1;customer h 1 1;";
        error(MANY, customers + "|customer a 1 1;");
        error(SYNTAX, customers + "owl 1;|customer i 1 1;");
        String owls = SHORT + "owl 1;owl 1;owl 1;owl 1;owl 1;";
        error(MANY, owls + "|owl 1;");
        error(SYNTAX, owls + "|customer a 1 1;");
        error(SYNTAX, owls + "|bowl");
        good(places);
        good(customers);
        good(owls);
    }

    /** Nothing of a setup, right or wrong, is left in the next one. */
    private static void loadAgainAndAgain() {
        ProphecyShop s = new ProphecyShop();
        for (int i = 0; i < 4; i++) {
            Checks.put(s, SHORT + "customer ada 9 9;customer ben 9 9;owl 1;owl 2;owl 3;owl 4;owl 10;");
            Checks.due("4: an error at the end", s.load(), RANGE);
            Checks.put(s, SHORT + "place mill;customer ada 9 1;owl 5;owl 5;owl 5;owl 5;");
            Checks.due("4: the same names again", s.load(), 0);
            Checks.due("10: events", s.eventCount(), 1);
            Checks.due("11: places", s.placeCount(), 2);
            Checks.due("12: customers", s.customerCount(), 1);
            Checks.due("32: owls", s.idleOwls(), 4);
            s.sellPlain(0, 0, 0, 0, 1, 2);
            Checks.due("30: no answer is left", s.answerFor(0), ProphecyShop.NO_ANSWER);
            Checks.due("25: no state is left", s.stateOf(0), ProphecyShop.OPEN);
            s.ask(0);
            s.advance(1);
            Checks.due("30: an answer for the next one to forget", s.answerFor(0), ProphecyShop.PAID);
        }
    }

    private static void latestErrorOnly() {
        ProphecyShop s = new ProphecyShop();
        Checks.put(s, "shop 100000");
        s.load();
        Checks.due("6: after load", s.errorCode(), RANGE);
        Checks.due("7: after load", s.errorPosition(), 5);
        Checks.put(s, "ask 0; happen rain taverns;");
        Checks.due("5: a wrong script", s.runScript(), ProphecyShop.NONE);
        Checks.due("6: after a script", s.errorCode(), RANGE);
        Checks.put(s, "happen rain hill;");
        s.runScript();
        Checks.due("6: an unknown name", s.errorCode(), NAME);
        Checks.due("7: an unknown name", s.errorPosition(), 12);
        s.advance(1);
        s.undo();
        s.save(0);
        s.restore(0);
        Checks.put(s, "x");
        s.truncate(0);
        Checks.due("6: other calls leave it", s.errorCode(), NAME);
        Checks.due("7: other calls leave it", s.errorPosition(), 12);
        Checks.due("5: a right script", s.runScript(), 0);
        Checks.due("6: no error", s.errorCode(), 0);
        Checks.due("7: no error", s.errorPosition(), ProphecyShop.NONE);
    }
}
