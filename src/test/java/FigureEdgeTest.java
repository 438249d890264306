import java.util.function.Supplier;

/** The edges of promises 35 to 40 (statistics) and 41 to 43 (forecasts). */
public final class FigureEdgeTest {
    private static final int NONE = ProphecyShop.NONE;
    private static final int MIN = Integer.MIN_VALUE;
    private static final int MAX = Integer.MAX_VALUE;

    public static void main(String[] args) {
        states();
        countsOfStates();
        handledRequests();
        refundTotal();
        truthOfNone();
        truthOfSome();
        meanOfNone();
        meanOfSome();
        coinsOfTheLargestShop();
        coinsOfTextsUndoAndSlots();
        daysUntilDecided();
        decidedByAHappening();
        refundedNow();
        refundedNever();
        latestRefund();
        latestRefundOnTheLastDay();
        refundsInTheQueue();
        daysOfCash();
        cashDayByDay();
        forecastsChangeNothing();
        Checks.end("FigureEdgeTest");
    }

    // ---- statistics

    private static void states() {
        int[] wrong = {MIN, -2, -1, 4, 5, 256, MAX};
        for (int state : wrong) {
            Checks.badArgument("35: state " + state, ProphecyShop::new, s -> s.countIn(state));
            Checks.badArgument("35: state " + state, () -> Shops.sold(24, 1), s -> s.countIn(state));
        }
    }

    private static void counts(String what, ProphecyShop s, int open, int fulfilled, int failed, int refunded) {
        Checks.due("35: open, " + what, s.countIn(0), open);
        Checks.due("35: fulfilled, " + what, s.countIn(1), fulfilled);
        Checks.due("35: failed, " + what, s.countIn(2), failed);
        Checks.due("35: refunded, " + what, s.countIn(3), refunded);
    }

    private static void countsOfStates() {
        counts("none is sold", new ProphecyShop(), 0, 0, 0, 0);
        int[] sold = {1, 2, 23, 24};
        for (int count : sold) {
            counts("all are open", Shops.sold(count, 1), count, 0, 0, 0);
            ProphecyShop late = Shops.sold(count, 1);
            late.advance(1);
            counts("all have failed", late, 0, 0, count, 0);
            ProphecyShop early = Shops.sold(count, 1);
            early.happen(0, 0);
            counts("the even ones have come true", early, count / 2, (count + 1) / 2, 0, 0);
            early.happen(1, 0);
            counts("all have come true", early, 0, count, 0, 0);
        }
        ProphecyShop paid = Checks.loaded("shop 0 9 99 100 100;event a;place g;customer m 99 1;" + "owl 9;".repeat(5));
        for (int p = 0; p < 24; p++) {
            paid.sellPlain(0, 0, 0, 0, 1, 1);
            paid.ask(p);
        }
        paid.advance(1);
        counts("five owls fly", paid, 0, 0, 19, 5);
        paid.advance(60);
        counts("all are refunded", paid, 0, 0, 0, 24);
        paid.undo();
        counts("undone", paid, 0, 0, 19, 5);
    }

    private static void handledRequests() {
        ProphecyShop s = new ProphecyShop();
        Checks.due("36: none", s.handledRequests(), 0);
        s.sellVague(1, 0, 0, 60, 1);
        s.ask(0);
        Checks.due("36: not yet", s.handledRequests(), 0);
        s.advance(1);
        Checks.due("36: a declined one", s.handledRequests(), 1);
        s.ask(0);
        s.advance(1);
        Checks.due("36: the same once more", s.handledRequests(), 2);
        s.advance(60);
        Checks.due("36: no more", s.handledRequests(), 2);
        s.undo();
        s.undo();
        Checks.due("36: undone", s.handledRequests(), 1);
        ProphecyShop stuck = Checks.loaded("shop 0 9 99 100 100;event a;place g;customer m 99 1;");
        stuck.sellPlain(0, 0, 0, 0, 1, 1);
        stuck.ask(0);
        stuck.advance(60);
        Checks.due("36: no owl, no answer", stuck.handledRequests(), 0);
    }

    private static void refundTotal() {
        ProphecyShop s = Checks.loaded("shop 9999 9 99 200 0;event a;place g;customer m 9999 1;owl 1;owl 1;owl 1;");
        Checks.due("37: none", s.refundTotal(), 0);
        s.sellVague(0, 0, 0, 1, 999);
        s.sellPlain(0, 0, 0, 0, 1, 1);
        s.sellDenial(0, 0, 0, 0, 2, 999);
        s.ask(0);
        Checks.due("37: none", s.refundTotal(), 0);
        s.advance(1);
        Checks.due("37: a refund of no coins", s.refundTotal(), 0);
        Checks.due("25: refunded", s.stateOf(0), ProphecyShop.REFUNDED);
        s.ask(1);
        s.advance(1);
        Checks.due("37: on its way", s.refundTotal(), 2);
        s.ask(1);
        s.ask(2);
        s.advance(1);
        Checks.due("37: declined ones are not paid", s.refundTotal(), 2);
        s.sellDenial(0, 0, 0, 0, 1, 999);
        s.happen(0, 0);
        s.ask(3);
        s.advance(1);
        Checks.due("37: the sum", s.refundTotal(), 2 + 1998);
        s.undo();
        Checks.due("37: undone", s.refundTotal(), 2);
    }

    /** 0.0f if all are OPEN. */
    private static void truthOfNone() {
        Checks.due("38: none is sold", new ProphecyShop().truthShare(), 0.0f);
        Checks.due("38: one is open", Shops.sold(1, 60).truthShare(), 0.0f);
        Checks.due("38: 24 are open", Shops.sold(24, 60).truthShare(), 0.0f);
        ProphecyShop late = Shops.sold(24, 1);
        late.advance(1);
        Checks.due("38: all have failed", late.truthShare(), 0.0f);
        late.undo();
        late.happen(0, 0);
        Checks.due("38: none but true ones", late.truthShare(), 1.0f);
        late.happen(1, 0);
        Checks.due("38: all are true", late.truthShare(), 1.0f);
        ProphecyShop one = Shops.sold(1, 1);
        one.happen(0, 0);
        Checks.due("38: one of one", one.truthShare(), 1.0f);
    }

    /** The number of FULFILLED prophecies by the number of those that are not OPEN, both converted to float. */
    private static void truthOfSome() {
        for (int fulfilled = 0; fulfilled <= 23; fulfilled++) {
            int sold = 23;
            ProphecyShop s = new ProphecyShop();
            for (int p = 0; p < sold; p++) {
                s.sellVague(1, p < fulfilled ? 0 : 1, 0, 1, 1);
            }
            s.sellVague(1, 1, 0, 60, 1);
            s.happen(0, 0);
            s.ask(22);
            s.advance(1);
            Checks.due("38: " + fulfilled + " of 23", s.truthShare(), (float) fulfilled / (float) sold);
            s.advance(60);
            Checks.due("38: " + fulfilled + " of 24", s.truthShare(), (float) fulfilled / 24.0f);
        }
    }

    /** 0.0 if there are none. */
    private static void meanOfNone() {
        Checks.due("39: none is sold", new ProphecyShop().meanPrice(), 0.0);
        ProphecyShop s = Shops.sold(1, 1);
        Checks.due("39: one coin", s.meanPrice(), 1.0);
        s.undo();
        Checks.due("39: undone", s.meanPrice(), 0.0);
    }

    private static void meanOfSome() {
        ProphecyShop s = Shops.largest();
        int sum = 0;
        for (int p = 0; p < 24; p++) {
            int price = p == 0 ? 999 : 1 + 37 * p % 100;
            s.sellPlain(p % 8, 0, 0, 0, 1 + p, price);
            sum += price;
            Checks.due("39: mean of " + (p + 1), s.meanPrice(), (double) sum / (double) (p + 1));
        }
        s.advance(12);
        Checks.due("39: decided ones count as well", s.meanPrice(), (double) sum / 24.0);
        ProphecyShop dear = Shops.largest();
        for (int p = 0; p < 24; p++) {
            dear.sellVague(p % 8, 0, 0, 1, 999);
        }
        Checks.due("39: the highest mean", dear.meanPrice(), 999.0);
    }

    /** The result is always 0: coins in the cash, in each of eight purses and with each of five owls. */
    private static void coinsOfTheLargestShop() {
        ProphecyShop s = Checks.loaded(Shops.LARGEST.replace("99 100 50", "99 200 150").replace("shop 0", "shop 999"));
        Checks.due("40: at first", s.contradictions(), 0);
        for (int p = 0; p < 24; p++) {
            if (p % 2 == 0) {
                s.sellPlain(p % 8, p % 6, p % 6, p % 4, 1 + p % 3, 10 + p);
            } else {
                s.sellVague(p % 8, p % 6, p % 4, 1 + p % 3, 10 + p);
            }
            Checks.due("40: sold " + p, s.contradictions(), 0);
        }
        for (int day = 0; day < 80; day++) {
            if (s.placeInQueue(day % 24) == NONE) {
                s.ask(day % 24);
            }
            s.advance(1 + day % 2);
            Checks.due("40: day " + s.day(), s.contradictions(), 0);
        }
        Checks.due("37: enough was paid", s.refundTotal() > 500, true);
    }

    private static void coinsOfTextsUndoAndSlots() {
        ProphecyShop s = Checks.after("sell ada plain rain inn 0 1 80; sell ben vague war 0 1 99; pass 1; ask 0; ask 1;"
            + "pass 1;");
        Checks.due("40: owls on their way", s.contradictions(), 0);
        s.save(0);
        s.advance(60);
        Checks.due("40: owls at home", s.contradictions(), 0);
        s.undo();
        Checks.due("40: undone", s.contradictions(), 0);
        s.undo();
        Checks.due("40: all undone", s.contradictions(), 0);
        s.restore(0);
        Checks.due("40: restored", s.contradictions(), 0);
        Checks.put(s, Shops.LARGEST.replace("shop 0", "shop 99999"));
        s.load();
        Checks.due("40: loaded", s.contradictions(), 0);
        s.sellDenial(7, 5, 5, 99, 60, 999);
        Checks.due("40: loaded and sold", s.contradictions(), 0);
        Checks.due("40: the smallest shop", Shops.smallest().contradictions(), 0);
    }

    // ---- forecasts

    /** The least number of days, 0 if it is decided now. */
    private static void daysUntilDecided() {
        int[] delays = {0, 1, 98, 99};
        int[] lengths = {1, 2, 59, 60};
        for (int delay : delays) {
            for (int length : lengths) {
                ProphecyShop s = new ProphecyShop();
                s.sellPlain(1, 0, 0, delay, length, 1);
                s.sellVague(1, 0, delay, length, 1);
                s.sellDenial(1, 0, 0, delay, length, 1);
                for (int day = 0; day <= 160; day += day < 3 || day > 153 ? 1 : 50) {
                    Shops.passTo(s, day);
                    int days = Math.max(0, delay + length - day);
                    for (int p = 0; p < 3; p++) {
                        Checks.due("41: prophecy " + p + " on day " + day, s.daysUntilDecided(p), days);
                    }
                    Checks.due("25: as it is told", s.stateOf(0) == ProphecyShop.OPEN, days > 0);
                }
            }
        }
    }

    private static void decidedByAHappening() {
        ProphecyShop s = new ProphecyShop();
        s.sellVague(1, 0, 0, 60, 1);
        s.sellVague(1, 1, 0, 60, 1);
        s.sellVague(1, 0, 1, 60, 1);
        s.happen(0, 0);
        Checks.due("41: decided by it", s.daysUntilDecided(0), 0);
        Checks.due("41: another event", s.daysUntilDecided(1), 60);
        Checks.due("41: not begun yet", s.daysUntilDecided(2), 61);
        s.undo();
        Checks.due("41: undone", s.daysUntilDecided(0), 60);
    }

    /** 0 if it is REFUNDED now. */
    private static void refundedNow() {
        ProphecyShop s = Shops.single();
        s.sellPlain(0, 0, 0, 0, 1, 1);
        s.ask(0);
        Checks.due("42: tomorrow", s.daysUntilRefunded(0), 1);
        s.advance(1);
        Checks.due("42: now", s.daysUntilRefunded(0), 0);
        s.ask(0);
        Checks.due("42: now, though asked for again", s.daysUntilRefunded(0), 0);
        Shops.passTo(s, 400);
        Checks.due("42: long ago", s.daysUntilRefunded(0), 0);
    }

    private static void refundedNever() {
        ProphecyShop s = Checks.loaded("shop 0 9 0 200 100;event a;place g;customer m 99 1;owl 1;");
        s.sellVague(0, 0, 0, 1, 1);
        Checks.due("42: nobody asks", s.daysUntilRefunded(0), NONE);
        s.sellVague(0, 0, 0, 2, 1);
        s.ask(1);
        Checks.due("42: open when it is handled", s.daysUntilRefunded(1), NONE);
        s.sellDenial(0, 0, 0, 0, 1, 1);
        s.ask(2);
        Checks.due("42: fulfilled when it is handled", s.daysUntilRefunded(2), NONE);
        s.sellPlain(0, 0, 0, 0, 1, 4);
        s.ask(3);
        Checks.due("42: no cash when it is handled", s.daysUntilRefunded(3), NONE);
        s.advance(1);
        s.ask(0);
        Checks.due("42: too late when it is handled", s.daysUntilRefunded(0), NONE);
        ProphecyShop noOwl = Checks.loaded("shop 0 9 99 100 100;event a;place g;customer m 99 1;");
        noOwl.sellPlain(0, 0, 0, 0, 1, 1);
        noOwl.ask(0);
        Checks.due("42: no owl", noOwl.daysUntilRefunded(0), NONE);
    }

    /**
     * Six refunds, for which the only owl is away 60 days each, but for the last but one, which takes 16 days. Each
     * request that is declined first takes a day. The last prophecy is decided as late as there can be one, on day 159
     * after the sale, so that its grace is over after day 258.
     */
    private static void addRefunds(ProphecyShop s, int declined) {
        for (int p = 0; p < declined; p++) {
            s.sellPlain(0, 0, 0, 99, 60, 1);
        }
        int[] customers = {0, 0, 0, 0, 1, 0};
        int[] delays = {0, 0, 30, 90, 99, 99};
        int[] lengths = {1, 1, 1, 1, 60, 60};
        for (int i = 0; i < 6; i++) {
            s.sellPlain(customers[i], 0, 0, delays[i], lengths[i], 10);
        }
        for (int p = 0; p < declined + 6; p++) {
            s.ask(p);
        }
    }

    private static final String FAR = "shop 0 1 99 100 100;event a;place g;customer m 999 30;customer n 999 8;owl 1;";

    /** NONE if it will not be within 300 days; the latest refund that there can be is after 258 days. */
    private static void latestRefund() {
        int[] want = {257, 258, NONE};
        for (int declined = 0; declined < 3; declined++) {
            ProphecyShop s = Checks.loaded(FAR);
            addRefunds(s, declined);
            int last = declined + 5;
            Checks.due("42: the first refund", s.daysUntilRefunded(declined), declined + 1);
            Checks.due("42: the last but one", s.daysUntilRefunded(last - 1), declined + 241);
            Checks.due("42: the last, after " + declined, s.daysUntilRefunded(last), want[declined]);
            Checks.due("43: before the last", s.cashAfter(256 + declined), declined + 10);
            int left = declined + (want[declined] == NONE ? 10 : 0);
            Checks.due("43: after the last", s.cashAfter(257 + declined), left);
            Checks.due("43: nothing more", s.cashAfter(300), left);
            Shops.passTo(s, 256 + declined);
            Checks.due("25: not yet", s.stateOf(last), ProphecyShop.FAILED);
            Checks.due("42: tomorrow", s.daysUntilRefunded(last), want[declined] == NONE ? NONE : 1);
            s.advance(1);
            Checks.due("25: as foretold", s.stateOf(last) == ProphecyShop.REFUNDED, want[declined] != NONE);
        }
    }

    /** Forecasts go beyond day 9999. */
    private static void latestRefundOnTheLastDay() {
        ProphecyShop s = Checks.loaded(FAR);
        Shops.passTo(s, 9999);
        addRefunds(s, 1);
        Checks.due("42: the latest, on day 10257", s.daysUntilRefunded(6), 258);
        Checks.due("42: the first, on day 10001", s.daysUntilRefunded(1), 2);
        Checks.due("41: the latest, on day 10158", s.daysUntilDecided(6), 159);
        Checks.due("43: at the end, on day 10299", s.cashAfter(300), 1);
        Checks.due("43: on day 10000", s.cashAfter(1), 61);
        Checks.due("43: on day 10001", s.cashAfter(2), 51);
        Checks.due("8: the day stays", s.day(), 9999);
        ProphecyShop t = Shops.onDay(9998);
        t.sellPlain(1, 0, 0, 0, 1, 7);
        t.ask(0);
        Checks.due("42: on day 9999", t.daysUntilRefunded(0), 1);
        Checks.due("41: on day 9999", t.daysUntilDecided(0), 1);
        t.advance(1);
        Checks.due("42: now, on day 9999", t.daysUntilRefunded(0), 0);
    }

    /** From the first place of the queue to the last, one request a day. */
    private static void refundsInTheQueue() {
        for (int before = 0; before <= 23; before++) {
            ProphecyShop s = Checks.loaded("shop 0 1 99 100 100;event a;place g;customer m 999 1;owl 1;");
            for (int p = 0; p < before; p++) {
                s.sellPlain(0, 0, 0, 0, 60, 1);
                s.ask(p);
            }
            s.sellPlain(0, 0, 0, 0, 1, 1);
            s.ask(before);
            Checks.due("42: after " + before, s.daysUntilRefunded(before), before + 1);
        }
    }

    private static void daysOfCash() {
        int[] wrong = {MIN, -1, 301, 302, 557, MAX};
        for (int days : wrong) {
            Checks.badArgument("43: days " + days, ProphecyShop::new, s -> s.cashAfter(days));
            Checks.badArgument("43: days " + days + " on the last day", () -> Shops.onDay(9999),
                s -> s.cashAfter(days));
        }
        int[] right = {0, 1, 299, 300};
        for (int days : right) {
            Checks.due("43: days " + days, new ProphecyShop().cashAfter(days), 100);
            Checks.due("43: days " + days + " on the last day", Shops.onDay(9999).cashAfter(days), 100);
        }
    }

    private static void cashDayByDay() {
        Supplier<ProphecyShop> made = () -> {
            ProphecyShop s = new ProphecyShop();
            s.sellPlain(1, 0, 0, 0, 1, 10);
            s.sellPlain(0, 0, 0, 0, 2, 20);
            s.sellDenial(1, 0, 0, 0, 9, 30);
            s.sellVague(1, 1, 0, 1, 40);
            s.ask(0);
            s.ask(2);
            s.ask(3);
            s.ask(1);
            return s;
        };
        ProphecyShop s = made.get();
        Checks.due("43: now", s.cashAfter(0), s.cash());
        int[] want = {200, 190, 170, 170, 170, 170, 150, 150};
        for (int days = 0; days < want.length; days++) {
            Checks.due("43: after " + days, made.get().cashAfter(days), want[days]);
            Checks.due("43: it has come true after " + days, s.cash(), want[days]);
            s.advance(1);
        }
    }

    /** Forecasts do not change anything. */
    private static void forecastsChangeNothing() {
        Supplier<ProphecyShop> made = () -> {
            ProphecyShop s = Checks.after("sell ben plain rain inn 0 1 10; sell ada plain rain mill 0 9 9; ask 0;"
                + "pass 1;");
            s.save(1);
            s.ask(1);
            s.happen(0, 0);
            s.writeQueue();
            Checks.put(s, "ben");
            return s;
        };
        ProphecyShop s = made.get();
        s.cashAfter(300);
        s.daysUntilRefunded(0);
        s.daysUntilRefunded(1);
        s.daysUntilDecided(1);
        s.cashAfter(0);
        Checks.due("41 to 43: nothing is changed", View.ofAll(s), View.ofAll(made.get()));
    }
}
