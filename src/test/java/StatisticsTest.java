/** Promises 35 to 40 (statistics) and 41 to 43 (forecasts). */
public final class StatisticsTest {
    private static final int NONE = ProphecyShop.NONE;

    public static void main(String[] args) {
        countIn();
        requestsAndRefunds();
        truthShare();
        meanPrice();
        contradictions();
        daysUntilDecided();
        daysUntilRefunded();
        refundsFarAhead();
        refundsInARow();
        cashAfter();
        forecastsChangeNothing();
        forecastsBeyondTheLastDay();
        Checks.end("StatisticsTest");
    }

    /** Four states: 0 OPEN, 1 and 2 FULFILLED, 3 FAILED, 4 REFUNDED, 5 OPEN, 6 FAILED, 7 OPEN. */
    private static ProphecyShop mixed() {
        ProphecyShop s = Checks.loaded("shop 50 2 9 100 50;event a;event b;place c;place d;"
            + "customer e 999 1;customer f 999 7;owl 1;owl 2;");
        s.sellPlain(0, 0, 0, 0, 60, 10);
        s.sellDenial(0, 1, 0, 0, 1, 20);
        s.sellVague(1, 1, 0, 60, 31);
        s.sellPlain(1, 1, 0, 0, 1, 40);
        s.sellVague(1, 0, 0, 1, 51);
        s.sellVague(1, 0, 1, 60, 60);
        s.sellDenial(1, 1, 1, 0, 60, 70);
        s.sellPlain(0, 0, 0, 0, 60, 80);
        s.advance(1);
        s.happen(1, 1);
        s.ask(0);
        s.ask(4);
        s.ask(1);
        s.advance(1);
        return s;
    }

    private static void countIn() {
        ProphecyShop s = mixed();
        Checks.due("35: open", s.countIn(ProphecyShop.OPEN), 3);
        Checks.due("35: fulfilled", s.countIn(ProphecyShop.FULFILLED), 2);
        Checks.due("35: failed", s.countIn(ProphecyShop.FAILED), 2);
        Checks.due("35: refunded", s.countIn(ProphecyShop.REFUNDED), 1);
        int[] wrong = {Integer.MIN_VALUE, -1, 4, Integer.MAX_VALUE};
        for (int state : wrong) {
            Checks.badArgument("35: state " + state, StatisticsTest::mixed, t -> t.countIn(state));
        }
        ProphecyShop fresh = new ProphecyShop();
        for (int state = 0; state < 4; state++) {
            Checks.due("35: none in " + state, fresh.countIn(state), 0);
        }
    }

    private static void requestsAndRefunds() {
        ProphecyShop s = mixed();
        Checks.due("36: two of three", s.handledRequests(), 2);
        Checks.due("37: one was paid", s.refundTotal(), 25);
        s.ask(3);
        s.advance(1);
        Checks.due("36: four", s.handledRequests(), 4);
        Checks.due("37: two were paid", s.refundTotal(), 65);
        s.ask(3);
        s.advance(1);
        Checks.due("36: a declined one counts", s.handledRequests(), 5);
        Checks.due("37: a declined one is not paid", s.refundTotal(), 65);
        s.undo();
        Checks.due("36: undone", s.handledRequests(), 4);
    }

    private static void truthShare() {
        ProphecyShop s = mixed();
        Checks.due("38: two of five", s.truthShare(), 2.0f / 5.0f);
        s.happen(0, 0);
        Checks.due("38: five of eight", s.truthShare(), 5.0f / 8.0f);
        ProphecyShop t = new ProphecyShop();
        Checks.due("38: no prophecy", t.truthShare(), 0.0f);
        t.sellPlain(1, 0, 0, 0, 3, 1);
        Checks.due("38: all are open", t.truthShare(), 0.0f);
        t.sellDenial(1, 0, 0, 0, 1, 1);
        t.advance(1);
        Checks.due("38: open ones do not count", t.truthShare(), 1.0f);
        t.advance(2);
        Checks.due("38: one of two", t.truthShare(), 0.5f);
        t.sellPlain(1, 0, 0, 0, 1, 1);
        t.advance(1);
        Checks.due("38: one of three, as a float", t.truthShare(), 1.0f / 3.0f);
    }

    private static void meanPrice() {
        ProphecyShop s = new ProphecyShop();
        Checks.due("39: none", s.meanPrice(), 0.0);
        s.sellPlain(1, 0, 0, 0, 3, 10);
        Checks.due("39: one", s.meanPrice(), 10.0);
        s.sellVague(1, 0, 0, 1, 11);
        Checks.due("39: a half", s.meanPrice(), 10.5);
        s.sellDenial(1, 0, 0, 0, 1, 1);
        s.advance(2);
        Checks.due("39: of all, as a double", s.meanPrice(), 22.0 / 3.0);
        s.undo();
        s.undo();
        Checks.due("39: undone", s.meanPrice(), 10.5);
    }

    private static void contradictions() {
        ProphecyShop s = mixed();
        for (int i = 0; i < 40; i++) {
            Checks.due("40: day " + s.day(), s.contradictions(), 0);
            if (i % 3 == 0 && s.placeInQueue(i % 8) == NONE) {
                s.ask(i % 8);
            }
            s.advance(1 + i % 5);
        }
        s.save(0);
        s.undo();
        Checks.due("40: after undo", s.contradictions(), 0);
        s.restore(0);
        Checks.due("40: after restore", s.contradictions(), 0);
        Checks.due("40: of a new shop", new ProphecyShop().contradictions(), 0);
    }

    private static void daysUntilDecided() {
        ProphecyShop s = new ProphecyShop();
        s.sellPlain(1, 0, 0, 0, 1, 1);
        s.sellVague(1, 0, 99, 60, 1);
        s.sellDenial(1, 1, 0, 2, 3, 1);
        Checks.due("41: tomorrow", s.daysUntilDecided(0), 1);
        Checks.due("41: the farthest", s.daysUntilDecided(1), 159);
        Checks.due("41: a denial", s.daysUntilDecided(2), 5);
        s.advance(1);
        Checks.due("41: decided", s.daysUntilDecided(0), 0);
        Checks.due("41: a day nearer", s.daysUntilDecided(2), 4);
        s.advance(3);
        Checks.due("41: on its last day", s.daysUntilDecided(2), 1);
        s.happen(1, 0);
        Checks.due("41: decided early", s.daysUntilDecided(2), 0);
        s.advance(9);
        Checks.due("41: long ago", s.daysUntilDecided(0), 0);
    }

    private static void daysUntilRefunded() {
        ProphecyShop s = Checks.loaded("shop 50 2 9 100 50;event a;place c;customer e 999 4;owl 2;");
        for (int i = 0; i < 5; i++) {
            s.sellPlain(0, 0, 0, 0, 1, 10);
        }
        s.sellPlain(0, 0, 0, 0, 60, 10);
        Checks.due("42: no request", s.daysUntilRefunded(0), NONE);
        s.ask(5);
        s.ask(0);
        s.ask(1);
        s.ask(2);
        s.ask(3);
        Checks.due("42: tomorrow", s.daysUntilRefunded(0), 1);
        Checks.due("42: when the owl is back", s.daysUntilRefunded(1), 5);
        Checks.due("42: two flights", s.daysUntilRefunded(2), 9);
        Checks.due("42: too late after three flights", s.daysUntilRefunded(3), NONE);
        Checks.due("42: open when it is handled", s.daysUntilRefunded(5), NONE);
        s.advance(1);
        Checks.due("42: refunded now", s.daysUntilRefunded(0), 0);
        Checks.due("42: a day nearer", s.daysUntilRefunded(1), 4);
        s.advance(4);
        Checks.due("42: as foretold", s.stateOf(1), ProphecyShop.REFUNDED);
        Checks.due("42: refunded now", s.daysUntilRefunded(1), 0);
    }

    /** One owl that is away for 60 days a flight: each refund waits for it, the last one too long. */
    private static void refundsFarAhead() {
        ProphecyShop s = Checks.loaded("shop 0 9 99 100 100;event a;place c;customer e 999 30;owl 1;");
        int[] delays = {0, 0, 30, 90, 99, 99};
        int[] lengths = {1, 1, 1, 1, 60, 60};
        int[] want = {1, 61, 121, 181, 241, NONE};
        for (int p = 0; p < want.length; p++) {
            s.sellPlain(0, 0, 0, delays[p], lengths[p], 10);
            s.ask(p);
        }
        for (int p = 0; p < want.length; p++) {
            Checks.due("42: refund " + p, s.daysUntilRefunded(p), want[p]);
        }
        Checks.due("43: the day before the last refund", s.cashAfter(240), 20);
        Checks.due("43: the day of the last refund", s.cashAfter(241), 10);
        s.advance(1);
        s.ask(0);
        Checks.due("42: refunded now, though asked for again", s.daysUntilRefunded(0), 0);
        for (int p = 1; p < 5; p++) {
            s.advance(60);
            Checks.due("42: as foretold " + p, s.stateOf(p), ProphecyShop.REFUNDED);
        }
    }

    /** One request a day. */
    private static void refundsInARow() {
        ProphecyShop s = Checks.loaded("shop 999 1 99 100 100;event a;place c;customer e 999 30;owl 1;");
        for (int i = 0; i < 23; i++) {
            s.sellDenial(0, 0, 0, 0, 1, 1);
            s.ask(i);
        }
        s.sellPlain(0, 0, 0, 0, 1, 1);
        s.ask(23);
        Checks.due("42: after those before it", s.daysUntilRefunded(23), 24);
    }

    private static void cashAfter() {
        ProphecyShop s = Checks.loaded("shop 50 2 9 100 50;event a;place c;customer e 999 4;owl 2;");
        for (int i = 0; i < 4; i++) {
            s.sellPlain(0, 0, 0, 0, 1, 10);
            s.ask(i);
        }
        int[] days = {0, 1, 2, 4, 5, 8, 9, 10, 13, 299, 300};
        int[] want = {90, 80, 80, 80, 70, 70, 60, 60, 60, 60, 60};
        for (int i = 0; i < days.length; i++) {
            Checks.due("43: cash after " + days[i], s.cashAfter(days[i]), want[i]);
        }
        int[] wrong = {Integer.MIN_VALUE, -1, 301, Integer.MAX_VALUE};
        for (int d : wrong) {
            Checks.badArgument("43: days " + d, StatisticsTest::mixed, t -> t.cashAfter(d));
        }
        s.advance(9);
        Checks.due("43: as foretold", s.cash(), 60);
        Checks.due("43: nothing more", s.cashAfter(300), 60);
    }

    private static void forecastsChangeNothing() {
        ProphecyShop s = mixed();
        String before = View.of(s);
        s.cashAfter(300);
        s.daysUntilRefunded(3);
        s.daysUntilRefunded(4);
        s.daysUntilDecided(0);
        Checks.due("41 to 43: nothing is changed", View.of(s), before);
        s.undo();
        Checks.due("41 to 43: undo as before", s.day(), 1);
    }

    private static void forecastsBeyondTheLastDay() {
        ProphecyShop s = new ProphecyShop();
        for (int i = 0; i < 166; i++) {
            s.advance(60);
        }
        s.advance(39);
        s.sellPlain(1, 0, 0, 0, 1, 40);
        s.sellPlain(1, 0, 0, 99, 60, 40);
        s.ask(0);
        Checks.due("8: the last day", s.day(), 9999);
        Checks.due("41: on day 10000", s.daysUntilDecided(0), 1);
        Checks.due("41: on day 10158", s.daysUntilDecided(1), 159);
        Checks.due("42: on day 10000", s.daysUntilRefunded(0), 1);
        Checks.due("43: on day 10000", s.cashAfter(1), 140);
        Checks.due("43: on day 10299", s.cashAfter(300), 140);
        Checks.due("50: days with five digits", s.writeProphecy(1), "ben:rain@inn 10098-10157".length());
        Checks.due("50: days with five digits", Checks.output(s), "ben:rain@inn 10098-10157");
    }
}
