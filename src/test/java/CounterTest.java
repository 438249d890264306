/** Promises 28 to 34 and 47 to 49: happenings, requests, owls and days. */
public final class CounterTest {
    private static final int NONE = ProphecyShop.NONE;
    private static final int OPEN = ProphecyShop.OPEN;
    private static final int FULFILLED = ProphecyShop.FULFILLED;
    private static final int FAILED = ProphecyShop.FAILED;
    private static final int REFUNDED = ProphecyShop.REFUNDED;

    public static void main(String[] args) {
        happeningDecides();
        happeningIsRefused();
        sixtyHappenings();
        overdueAreDecided();
        queue();
        answers();
        answersInOrder();
        counterRate();
        noIdleOwl();
        noCash();
        flights();
        returningOwlIsUsedAtOnce();
        advance();
        expectedAnswers();
        wrongOwls();
        Checks.end("CounterTest");
    }

    private static void states(String what, ProphecyShop s, int... want) {
        for (int p = 0; p < want.length; p++) {
            Checks.due(what + ", state of " + p, s.stateOf(p), want[p]);
        }
    }

    private static void happeningDecides() {
        ProphecyShop s = new ProphecyShop();
        s.sellPlain(1, 0, 0, 0, 5, 1);
        s.sellPlain(1, 0, 1, 0, 5, 1);
        s.sellPlain(1, 1, 0, 0, 5, 1);
        s.sellVague(1, 0, 0, 5, 1);
        s.sellVague(1, 1, 0, 5, 1);
        s.sellDenial(1, 0, 0, 0, 5, 1);
        s.sellDenial(1, 0, 2, 0, 5, 1);
        s.sellPlain(1, 0, 0, 1, 5, 1);
        s.sellVague(1, 0, 1, 5, 1);
        s.sellDenial(1, 0, 0, 1, 5, 1);
        Checks.due("47: three are decided", s.happen(0, 0), 3);
        states("47", s, FULFILLED, OPEN, OPEN, FULFILLED, OPEN, FAILED, OPEN, OPEN, OPEN, OPEN);
        Checks.due("47: it is noted", s.hasHappened(0, 0, 0), true);
        Checks.due("47: change", s.undoCount(), 8);
        s.advance(1);
        Checks.due("47: the first day has come, decided ones stay", s.happen(0, 0), 3);
        states("47", s, FULFILLED, OPEN, OPEN, FULFILLED, OPEN, FAILED, OPEN, FULFILLED, FULFILLED, FAILED);
        Checks.due("47: decided before", s.decidedOn(0), 0);
        s.advance(3);
        Checks.due("47: on the last day", s.happen(0, 1), 1);
        Checks.due("47: none is left", s.happen(0, 0), 0);
        s.advance(1);
        states("47", s, FULFILLED, FULFILLED, FAILED, FULFILLED, FAILED, FAILED, FULFILLED);
        s.sellPlain(1, 0, 0, 0, 1, 1);
        s.happen(0, 0);
        s.sellPlain(1, 0, 0, 0, 1, 1);
        states("47: what happened before the sale does not count", s, FULFILLED, FULFILLED, FAILED, FULFILLED,
            FAILED, FAILED, FULFILLED, FULFILLED, FULFILLED, FAILED, FULFILLED, OPEN);
    }

    private static void happeningIsRefused() {
        ProphecyShop s = new ProphecyShop();
        s.happen(1, 2);
        Checks.badState("47: twice on a day", () -> Checks.after("happen war pass;"), t -> t.happen(1, 2));
        Checks.missing("47: event below", ProphecyShop::new, t -> t.happen(-1, 0));
        Checks.missing("47: event above", ProphecyShop::new, t -> t.happen(2, 0));
        Checks.missing("47: place below", ProphecyShop::new, t -> t.happen(0, -1));
        Checks.missing("47: place above", ProphecyShop::new, t -> t.happen(0, 3));
        Checks.missing("47: far", ProphecyShop::new, t -> t.happen(Integer.MAX_VALUE, Integer.MIN_VALUE));
        Checks.due("47: another event", s.happen(0, 2), 0);
        Checks.due("47: another place", s.happen(1, 1), 0);
        s.advance(1);
        Checks.due("47: another day", s.happen(1, 2), 0);
        s.undo();
        Checks.due("47: after undo", s.happen(1, 2), 0);
    }

    private static void sixtyHappenings() {
        ProphecyShop s = new ProphecyShop();
        for (int i = 0; i < 60; i++) {
            s.happen(i % 2, i / 2 % 3);
            if (i % 6 == 5) {
                s.advance(1);
            }
        }
        Checks.due("47: sixty are noted", s.timesHappened(0, 0) + s.timesHappened(0, 1) + s.timesHappened(0, 2)
            + s.timesHappened(1, 0) + s.timesHappened(1, 1) + s.timesHappened(1, 2), 60);
        Checks.due("16: the sixtieth", s.hasHappened(1, 2, 9), true);
        Checks.badState("47: the 61st", s, () -> s.happen(0, 0));
        Checks.missing("47: the number first", s, () -> s.happen(0, 3));
        Checks.due("5: the 61st in a script", Checks.script(s, "pass 1; happen rain inn; pass 1;"), 1);
        ProphecyShop t = new ProphecyShop();
        for (int i = 0; i < 60; i++) {
            if (i % 3 == 0) {
                t.advance(1);
            }
            t.happen(0, i % 3);
        }
        t.undo();
        Checks.due("47: room for one again", t.happen(1, 0), 0);
        Checks.badState("47: the 61st after undo", t, () -> t.happen(1, 1));
    }

    private static void overdueAreDecided() {
        ProphecyShop s = new ProphecyShop();
        s.sellPlain(1, 0, 0, 0, 1, 1);
        s.sellVague(1, 0, 0, 2, 1);
        s.sellDenial(1, 0, 0, 0, 1, 1);
        s.sellDenial(1, 0, 0, 1, 1, 1);
        s.sellPlain(1, 0, 0, 2, 1, 1);
        s.advance(1);
        states("49: a day later", s, FAILED, OPEN, FULFILLED, OPEN, OPEN);
        s.advance(1);
        states("49: two days later", s, FAILED, FAILED, FULFILLED, FULFILLED, OPEN);
        Checks.due("26: on the day after its last", s.decidedOn(3), 2);
        s.advance(5);
        states("49: many days later", s, FAILED, FAILED, FULFILLED, FULFILLED, FAILED);
        Checks.due("26: within the days that pass", s.decidedOn(4), 3);
    }

    private static void queue() {
        ProphecyShop s = Checks.loaded("shop 9 1 5 100 100;event a;place a;customer c 99 1;");
        for (int i = 0; i < 24; i++) {
            s.sellPlain(0, 0, 0, 0, 60, 1);
        }
        Checks.due("28: empty", s.queueLength(), 0);
        Checks.due("48: first", s.ask(3), 1);
        Checks.due("48: second", s.ask(0), 2);
        Checks.due("48: third", s.ask(23), 3);
        Checks.due("28: length", s.queueLength(), 3);
        Checks.due("29: first", s.placeInQueue(3), 0);
        Checks.due("29: second", s.placeInQueue(0), 1);
        Checks.due("29: third", s.placeInQueue(23), 2);
        Checks.due("29: not in it", s.placeInQueue(1), NONE);
        Checks.due("48: it is in the queue", Checks.nameOfThrown(() -> s.ask(0)), "IllegalStateException");
        Checks.due("48: the last is in the queue", Checks.nameOfThrown(() -> s.ask(23)), "IllegalStateException");
        Checks.due("48: none", Checks.nameOfThrown(() -> s.ask(24)), "IndexOutOfBoundsException");
        Checks.due("49: one is handled", s.advance(1), 1);
        Checks.due("29: the first has left", s.placeInQueue(3), NONE);
        Checks.due("29: the second is first", s.placeInQueue(0), 0);
        Checks.due("30: the first was declined", s.answerFor(3), ProphecyShop.STILL_OPEN);
        Checks.due("30: the second waits", s.answerFor(0), ProphecyShop.NO_ANSWER);
        Checks.due("48: it may be asked for again", s.ask(3), 3);
        Checks.due("29: at the end", s.placeInQueue(3), 2);
        for (int i = 0; i < 24; i++) {
            if (s.placeInQueue(i) == NONE) {
                s.ask(i);
            }
        }
        Checks.due("28: all", s.queueLength(), 24);
        Checks.due("49: all are handled one a day", s.advance(60), 24);
        Checks.due("28: empty again", s.queueLength(), 0);
        Checks.due("36: all of them", s.handledRequests(), 25);
    }

    private static void answers() {
        ProphecyShop s = Checks.loaded("shop 0 9 2 100 100;event a;place a;customer c 999 2;owl 9;owl 9;");
        s.sellPlain(0, 0, 0, 0, 60, 10);
        s.sellDenial(0, 0, 0, 0, 1, 10);
        s.sellPlain(0, 0, 0, 0, 1, 10);
        s.sellVague(0, 0, 1, 1, 10);
        s.advance(1);
        for (int p = 0; p < 3; p++) {
            s.ask(p);
        }
        Checks.due("49: all are handled", s.advance(1), 3);
        Checks.due("30: open", s.answerFor(0), ProphecyShop.STILL_OPEN);
        Checks.due("30: fulfilled", s.answerFor(1), ProphecyShop.IS_FULFILLED);
        Checks.due("30: paid", s.answerFor(2), ProphecyShop.PAID);
        Checks.due("30: not asked for", s.answerFor(3), ProphecyShop.NO_ANSWER);
        Checks.due("25: paid", s.stateOf(2), REFUNDED);
        s.ask(2);
        s.ask(3);
        s.advance(1);
        Checks.due("30: paid before", s.answerFor(2), ProphecyShop.ALREADY_PAID);
        Checks.due("30: a day after it was decided", s.answerFor(3), ProphecyShop.PAID);
        Checks.due("37: paid once each", s.refundTotal(), 20);
        s.sellPlain(0, 0, 0, 0, 1, 10);
        s.sellPlain(0, 0, 0, 0, 1, 10);
        s.advance(1);
        s.advance(1);
        s.ask(4);
        s.advance(1);
        Checks.due("30: on the last day of the grace", s.answerFor(4), ProphecyShop.PAID);
        s.ask(5);
        s.advance(1);
        Checks.due("30: a day later", s.answerFor(5), ProphecyShop.TOO_LATE);
        Checks.due("25: not paid", s.stateOf(5), FAILED);
        s.happen(0, 0);
        s.ask(0);
        s.advance(1);
        Checks.due("30: the latest answer", s.answerFor(0), ProphecyShop.IS_FULFILLED);
    }

    /** Each reason goes before those after it. */
    private static void answersInOrder() {
        ProphecyShop s = Checks.loaded("shop 0 9 0 200 200;event a;place a;customer c 999 1;owl 9;");
        s.sellPlain(0, 0, 0, 0, 60, 10);
        Checks.due("31: open before no cash", s.expectedAnswer(0), ProphecyShop.STILL_OPEN);
        s.happen(0, 0);
        s.advance(5);
        Checks.due("31: fulfilled before too late", s.expectedAnswer(0), ProphecyShop.IS_FULFILLED);
        s.sellDenial(0, 0, 0, 0, 1, 10);
        s.happen(0, 0);
        Checks.due("31: twice the cash is just there", s.expectedAnswer(1), ProphecyShop.PAID);
        s.ask(1);
        s.advance(1);
        Checks.due("30: too late before no cash", s.answerFor(1), ProphecyShop.TOO_LATE);
        ProphecyShop t = Checks.loaded("shop 0 9 0 100 200;event a;place a;customer c 999 1;owl 9;");
        t.sellDenial(0, 0, 0, 0, 1, 10);
        t.sellPlain(0, 0, 0, 0, 2, 10);
        t.ask(1);
        t.advance(2);
        t.ask(1);
        t.advance(1);
        Checks.due("30: the day after is too late with no grace", t.answerFor(1), ProphecyShop.TOO_LATE);
        t.sellVague(0, 0, 0, 1, 20);
        t.ask(2);
        t.advance(1);
        Checks.due("30: on the day of the decision, all the cash", t.answerFor(2), ProphecyShop.PAID);
        Checks.due("9: no cash is left", t.cash(), 0);
        t.ask(2);
        t.advance(9);
        Checks.due("30: paid before too late", t.answerFor(2), ProphecyShop.ALREADY_PAID);
        t.ask(1);
        t.advance(1);
        Checks.due("30: too late before no cash", t.answerFor(1), ProphecyShop.TOO_LATE);
    }

    private static void counterRate() {
        ProphecyShop s = Checks.loaded("shop 9 3 5 100 100;event a;place a;customer c 99 1;owl 9;owl 9;owl 9;owl 9;");
        for (int i = 0; i < 8; i++) {
            s.sellPlain(0, 0, 0, 0, 1, 1);
            s.ask(i);
        }
        Checks.due("49: three a day", s.advance(1), 3);
        Checks.due("30: the third", s.answerFor(2), ProphecyShop.PAID);
        Checks.due("30: the fourth", s.answerFor(3), ProphecyShop.NO_ANSWER);
        Checks.due("32: one owl is left", s.idleOwls(), 1);
        Checks.due("49: one owl, then none", s.advance(1), 1);
        Checks.due("49: the three are back", s.advance(1), 3);
        Checks.due("49: the last one", s.advance(1), 1);
        Checks.due("36: all", s.handledRequests(), 8);
    }

    private static void noIdleOwl() {
        ProphecyShop s = Checks.loaded("shop 99 9 3 100 100;event a;place a;customer c 99 10;owl 4;");
        for (int i = 0; i < 5; i++) {
            s.sellPlain(0, 0, 0, 0, 1, 10);
        }
        s.sellPlain(0, 0, 0, 0, 60, 10);
        s.ask(5);
        s.ask(0);
        s.ask(1);
        Checks.due("49: open, paid, then no owl", s.advance(1), 2);
        Checks.due("28: one waits", s.queueLength(), 1);
        s.ask(5);
        Checks.due("49: the next one holds up all after it", s.advance(3), 0);
        Checks.due("28: two wait", s.queueLength(), 2);
        Checks.due("31: an owl is not looked for", s.expectedAnswer(1), ProphecyShop.PAID);
        Checks.due("49: too late without an owl", s.advance(1), 2);
        Checks.due("30: too late", s.answerFor(1), ProphecyShop.TOO_LATE);
        Checks.due("33: the owl flies back", s.owlDays(0), 2);
        ProphecyShop noOwl = Checks.loaded("shop 99 9 1 100 100;event a;place a;customer c 99 10;");
        noOwl.sellPlain(0, 0, 0, 0, 1, 10);
        noOwl.ask(0);
        Checks.due("49: nobody flies", noOwl.advance(2), 0);
        Checks.due("49: then it is too late", noOwl.advance(1), 1);
    }

    private static void noCash() {
        ProphecyShop s = Checks.loaded("shop 0 9 99 150 50;event a;place a;customer c 999 1;owl 1;owl 1;owl 1;");
        s.sellPlain(0, 0, 0, 0, 1, 10);
        s.ask(0);
        s.advance(1);
        Checks.due("30: no cash", s.answerFor(0), ProphecyShop.NO_CASH);
        Checks.due("25: not paid", s.stateOf(0), FAILED);
        Checks.due("9: the cash stays", s.cash(), 10);
        Checks.due("32: no owl flies", s.idleOwls(), 3);
        Checks.due("36: handled all the same", s.handledRequests(), 1);
        s.sellVague(0, 0, 0, 1, 4);
        s.ask(0);
        s.advance(1);
        Checks.due("30: a coin is missing", s.answerFor(0), ProphecyShop.NO_CASH);
        s.sellVague(0, 0, 0, 1, 1);
        s.ask(0);
        s.ask(1);
        s.advance(1);
        Checks.due("30: just enough", s.answerFor(0), ProphecyShop.PAID);
        Checks.due("9: all is paid", s.cash(), 0);
        Checks.due("30: the next finds no cash", s.answerFor(1), ProphecyShop.NO_CASH);
        s.ask(2);
        s.advance(1);
        Checks.due("30: no coins need no cash", s.answerFor(2), ProphecyShop.PAID);
        Checks.due("33: but an owl", s.owlDays(1), 1);
        Checks.due("34: with no coins", s.owlCoins(1), 0);
        Checks.due("40: no contradictions", s.contradictions(), 0);
    }

    private static void flights() {
        ProphecyShop s = Checks.loaded("shop 99 9 9 100 100;event a;place a;customer c 99 10;customer d 99 9;"
            + "customer e 99 1;owl 3;owl 9;owl 1;");
        s.sellPlain(0, 0, 0, 0, 1, 5);
        s.sellPlain(1, 0, 0, 0, 1, 6);
        s.sellPlain(2, 0, 0, 0, 1, 7);
        s.ask(0);
        s.ask(1);
        s.ask(2);
        s.advance(1);
        Checks.due("33: ten by three", s.owlDays(0), 4);
        Checks.due("33: nine by nine", s.owlDays(1), 1);
        Checks.due("33: one by one", s.owlDays(2), 1);
        Checks.due("34: the first refund", s.owlCoins(0), 5);
        Checks.due("34: the second refund", s.owlCoins(1), 6);
        Checks.due("34: the third refund", s.owlCoins(2), 7);
        Checks.due("32: none is idle", s.idleOwls(), 0);
        s.advance(1);
        Checks.due("33: a day less", s.owlDays(0), 3);
        Checks.due("33: the way back", s.owlDays(1), 1);
        Checks.due("34: handed over", s.owlCoins(1), 0);
        Checks.due("14: arrived", s.purse(1), 99);
        Checks.due("14: arrived", s.purse(2), 99);
        Checks.due("14: not yet", s.purse(0), 94);
        Checks.due("32: none is idle on the way back", s.idleOwls(), 0);
        s.advance(1);
        Checks.due("32: two are back", s.idleOwls(), 2);
        Checks.due("33: idle", s.owlDays(1), 0);
        s.advance(2);
        Checks.due("14: arrived", s.purse(0), 99);
        Checks.due("33: the way back takes the same time", s.owlDays(0), 4);
        Checks.due("34: nothing to carry", s.owlCoins(0), 0);
        s.advance(3);
        Checks.due("33: nearly back", s.owlDays(0), 1);
        Checks.due("32: nearly back", s.idleOwls(), 2);
        s.advance(1);
        Checks.due("32: all are back", s.idleOwls(), 3);
        Checks.due("33: idle", s.owlDays(0), 0);
        s.advance(9);
        Checks.due("33: it stays at home", s.owlDays(0), 0);
        Checks.due("14: paid once", s.purse(0), 99);
    }

    private static void returningOwlIsUsedAtOnce() {
        ProphecyShop s = Checks.loaded("shop 99 9 9 100 100;event a;place a;customer c 99 1;owl 1;owl 1;");
        for (int i = 0; i < 4; i++) {
            s.sellPlain(0, 0, 0, 0, 1, i + 1);
        }
        s.ask(0);
        s.advance(1);
        s.ask(1);
        s.advance(1);
        Checks.due("34: the second owl takes the second", s.owlCoins(1), 2);
        s.ask(2);
        s.advance(1);
        Checks.due("34: the first owl is back and flies again", s.owlCoins(0), 3);
        Checks.due("33: a new flight", s.owlDays(0), 1);
        s.advance(5);
        s.ask(3);
        s.advance(1);
        Checks.due("34: of several the lowest number", s.owlCoins(0), 4);
        Checks.due("34: the other one stays", s.owlDays(1), 0);
    }

    private static void advance() {
        ProphecyShop s = new ProphecyShop();
        int[] wrong = {Integer.MIN_VALUE, -1, 0, 61, Integer.MAX_VALUE};
        for (int days : wrong) {
            Checks.badArgument("49: days " + days, ProphecyShop::new, t -> t.advance(days));
        }
        Checks.due("49: nothing to handle", s.advance(1), 0);
        s.sellPlain(1, 0, 0, 0, 60, 1);
        s.sellPlain(1, 0, 0, 0, 60, 1);
        s.sellPlain(1, 0, 0, 0, 60, 1);
        s.ask(0);
        s.ask(1);
        s.ask(2);
        Checks.due("49: in all days together", s.advance(60), 3);
        Checks.due("8: sixty days", s.day(), 61);
        Checks.due("49: change", s.undoCount(), 8);
        Shops.passTo(s, 9961);
        Checks.badState("49: day 10000", () -> Shops.onDay(9961), t -> t.advance(39));
        Checks.badState("49: day 10021", () -> Shops.onDay(9961), t -> t.advance(60));
        Checks.badArgument("49: the argument first", () -> Shops.onDay(9961), t -> t.advance(61));
        s.advance(38);
        Checks.due("49: day 9999", s.day(), 9999);
        Checks.badState("49: no day more", () -> Shops.onDay(9999), t -> t.advance(1));
    }

    private static void expectedAnswers() {
        ProphecyShop s = Checks.loaded("shop 0 9 1 100 200;event a;place a;customer c 999 30;owl 1;");
        s.sellPlain(0, 0, 0, 0, 1, 10);
        s.sellVague(0, 0, 0, 2, 11);
        s.sellDenial(0, 0, 0, 0, 2, 1);
        Checks.due("31: open", s.expectedAnswer(0), ProphecyShop.STILL_OPEN);
        s.advance(1);
        Checks.due("31: failed", s.expectedAnswer(0), ProphecyShop.PAID);
        Checks.due("31: no request is made", s.queueLength(), 0);
        Checks.due("31: nothing is answered", s.answerFor(0), ProphecyShop.NO_ANSWER);
        s.advance(1);
        Checks.due("31: in the grace", s.expectedAnswer(0), ProphecyShop.PAID);
        Checks.due("31: twenty-two of twenty-two coins", s.expectedAnswer(1), ProphecyShop.PAID);
        Checks.due("31: fulfilled", s.expectedAnswer(2), ProphecyShop.IS_FULFILLED);
        s.ask(1);
        s.advance(1);
        Checks.due("31: paid", s.expectedAnswer(1), ProphecyShop.ALREADY_PAID);
        Checks.due("31: after the grace", s.expectedAnswer(0), ProphecyShop.TOO_LATE);
        s.sellVague(0, 0, 0, 1, 9);
        s.advance(1);
        Checks.due("31: eighteen of nine coins", s.expectedAnswer(3), ProphecyShop.NO_CASH);
        s.sellPlain(0, 0, 0, 0, 1, 9);
        Checks.due("31: eighteen of eighteen coins, no owl idle", s.expectedAnswer(3), ProphecyShop.PAID);
        Checks.due("32: no owl is idle", s.idleOwls(), 0);
    }

    private static void wrongOwls() {
        ProphecyShop s = new ProphecyShop();
        Checks.due("33: idle at first", s.owlDays(1), 0);
        Checks.due("34: idle at first", s.owlCoins(1), 0);
        int[] wrong = {Integer.MIN_VALUE, -1, 2, 4, 5, Integer.MAX_VALUE};
        for (int owl : wrong) {
            Checks.missing("33: owl " + owl, ProphecyShop::new, t -> t.owlDays(owl));
            Checks.missing("34: owl " + owl, ProphecyShop::new, t -> t.owlCoins(owl));
        }
        ProphecyShop none = Checks.loaded("shop 1 1 1 1 1;event a;place a;");
        Checks.due("32: no owls", none.idleOwls(), 0);
        Checks.missing("33: no owls", none, () -> none.owlDays(0));
        Checks.missing("34: no owls", none, () -> none.owlCoins(0));
    }
}
