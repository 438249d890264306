import java.util.function.Supplier;

/** The edges of promises 28 to 34 and 47 to 49: happenings, requests, answers, owls and days. */
public final class CounterEdgeTest {
    private static final int NONE = ProphecyShop.NONE;
    private static final int MIN = Integer.MIN_VALUE;
    private static final int MAX = Integer.MAX_VALUE;

    public static void main(String[] args) {
        happeningsOfADay();
        sixtyHappenings();
        happeningsDecide();
        orderOfHappeningExceptions();
        queueOfAllLengths();
        requestsInTheQueue();
        requestsInAnyState();
        answersBeforeAndAfter();
        graceIsOver();
        cashIsGone();
        reasonsInOrder();
        rateOfADay();
        noOwlIdle();
        stepsOfADay();
        handledOnTheDayOfDecision();
        owlNumbers();
        idleOwls();
        lowestIdleOwl();
        flightsAndDays();
        daysToPass();
        lastDay();
        requestsOfManyDays();
        Checks.end("CounterEdgeTest");
    }

    // ---- happenings

    /** An event of a kind can happen in a place once per day. */
    private static void happeningsOfADay() {
        Supplier<ProphecyShop> once = () -> Checks.after("happen rain mill;");
        Checks.badState("47: twice on day 0", once, s -> s.happen(0, 1));
        Checks.due("47: another place", once.get().happen(0, 0), 0);
        Checks.due("47: another place", once.get().happen(0, 2), 0);
        Checks.due("47: another event", once.get().happen(1, 1), 0);
        Checks.due("47: event and place are not confused", once.get().happen(1, 0), 0);
        Supplier<ProphecyShop> nextDay = () -> Checks.after("happen rain mill; pass 1;");
        Checks.due("47: the next day", nextDay.get().happen(0, 1), 0);
        Checks.badState("47: twice on the next day", () -> Checks.after("happen rain mill; pass 1; happen rain mill;"),
            s -> s.happen(0, 1));
        ProphecyShop undone = once.get();
        undone.undo();
        Checks.due("47: undone", undone.happen(0, 1), 0);
        ProphecyShop s = Shops.largest();
        for (int i = 0; i < 36; i++) {
            Checks.due("47: each event in each place", s.happen(i / 6, i % 6), 0);
        }
        for (int i = 0; i < 36; i++) {
            int n = i;
            Checks.due("47: but once", Checks.nameOfThrown(() -> s.happen(n / 6, n % 6)), "IllegalStateException");
        }
        s.advance(1);
        Checks.due("47: and again on the next day", s.happen(5, 5), 0);
    }

    /** IllegalStateException if 60 happenings are noted. */
    private static void sixtyHappenings() {
        Checks.due("47: the 59th", Shops.happened(58).happen(1, 2), 0);
        Checks.due("47: the 60th", Shops.happened(59).happen(1, 2), 0);
        Checks.badState("47: the 61st", () -> Shops.happened(60), s -> s.happen(1, 2));
        Checks.badState("47: the 61st of another event", () -> Shops.happened(60), s -> s.happen(0, 0));
        Checks.badState("47: the 61st after many days", () -> {
            ProphecyShop s = Shops.happened(60);
            Shops.passTo(s, 500);
            return s;
        }, s -> s.happen(0, 0));
        ProphecyShop s = Shops.happened(59);
        s.sellVague(1, 0, 0, 9, 1);
        s.sellVague(1, 0, 1, 9, 1);
        Checks.due("47: the 60th decides", s.happen(0, 0), 1);
        s.advance(1);
        Checks.badState("47: the 61st decides nothing", s, () -> s.happen(0, 0));
        Checks.due("25: open still", s.stateOf(1), ProphecyShop.OPEN);
        s.undo();
        s.undo();
        Checks.due("47: the 60th again", s.happen(1, 0), 0);
    }

    /** The number of prophecies that are decided, from none to all. */
    private static void happeningsDecide() {
        Checks.due("47: none is sold", new ProphecyShop().happen(0, 0), 0);
        int[] counts = {1, 2, 23, 24};
        for (int count : counts) {
            ProphecyShop s = Shops.sold(count, 3);
            Checks.due("47: the odd ones of " + count, s.happen(1, 2), count / 2);
            Checks.due("47: the even ones of " + count, s.happen(0, 2), (count + 1) / 2);
            Checks.due("47: none is left of " + count, s.happen(0, 0), 0);
            s.advance(1);
            Checks.due("47: decided ones are not decided again", s.happen(0, 0), 0);
            Checks.due("26: on the day before", s.decidedOn(0), 0);
            Checks.due("35: all are fulfilled", s.countIn(ProphecyShop.FULFILLED), count);
        }
        ProphecyShop s = new ProphecyShop();
        for (int p = 0; p < 24; p++) {
            s.sellDenial(1, p % 2, p % 3, p / 12, 1, 1);
        }
        Checks.due("47: two of twelve denials have begun with this event and place", s.happen(1, 1), 2);
        Checks.due("35: failed", s.countIn(ProphecyShop.FAILED), 2);
        s.advance(1);
        Checks.due("47: two of those that begin today", s.happen(1, 1), 2);
        Checks.due("35: failed", s.countIn(ProphecyShop.FAILED), 4);
        Checks.due("35: the others of yesterday", s.countIn(ProphecyShop.FULFILLED), 10);
    }

    private static void orderOfHappeningExceptions() {
        Supplier<ProphecyShop> full = () -> Shops.happened(60);
        int[][] wrong = {{-1, 0}, {2, 0}, {0, -1}, {0, 3}, {2, 3}, {MIN, MAX}, {MAX, MIN}};
        for (int[] w : wrong) {
            Checks.missing("47: the number before the 61st", full, s -> s.happen(w[0], w[1]));
            Checks.missing("47: the number", ProphecyShop::new, s -> s.happen(w[0], w[1]));
        }
    }

    // ---- the queue

    private static void queueOfAllLengths() {
        ProphecyShop s = Shops.sold(24, 60);
        Checks.due("28: empty", s.queueLength(), 0);
        for (int p = 23; p >= 0; p--) {
            Checks.due("29: not yet", s.placeInQueue(p), NONE);
            Checks.due("48: requests", s.ask(p), 24 - p);
            Checks.due("28: requests", s.queueLength(), 24 - p);
            Checks.due("29: at the end", s.placeInQueue(p), 23 - p);
            Checks.due("29: the first", s.placeInQueue(23), 0);
        }
        for (int day = 1; day <= 12; day++) {
            Checks.due("49: two leave", s.advance(1), 2);
            Checks.due("28: two fewer", s.queueLength(), 24 - 2 * day);
            Checks.due("29: the last comes nearer", s.placeInQueue(0), day == 12 ? NONE : 23 - 2 * day);
            Checks.due("29: it has left", s.placeInQueue(24 - day), NONE);
        }
        Checks.due("49: the queue is empty", s.advance(1), 0);
        Checks.due("48: a new one", s.ask(7), 1);
        Checks.due("29: the first", s.placeInQueue(7), 0);
    }

    /** IllegalStateException if a request for it is in the queue. */
    private static void requestsInTheQueue() {
        for (int length = 1; length <= 24; length++) {
            int last = length - 1;
            Supplier<ProphecyShop> made = () -> {
                ProphecyShop s = Shops.sold(24, 60);
                for (int p = 0; p <= last; p++) {
                    s.ask(p);
                }
                return s;
            };
            refusedInQueue(made, 0);
            refusedInQueue(made, last / 2);
            refusedInQueue(made, last);
            if (length < 24) {
                Checks.due("48: one that is not in it", made.get().ask(length), length + 1);
            }
        }
        Supplier<ProphecyShop> made = () -> {
            ProphecyShop s = Shops.sold(3, 60);
            Checks.script(s, "ask 0; ask 1; ask 2; pass 1;");
            return s;
        };
        ProphecyShop s = made.get();
        Checks.due("48: the first was handled", s.ask(0), 2);
        Checks.due("48: the second was handled", s.ask(1), 3);
        s.undo();
        Checks.due("48: undone", s.ask(1), 3);
        Checks.badState("48: the third was not handled", made, t -> t.ask(2));
        Checks.missing("48: no such prophecy", made, t -> t.ask(3));
        Checks.missing("48: no such prophecy", made, t -> t.ask(-1));
        Checks.missing("48: none is sold", ProphecyShop::new, t -> t.ask(0));
    }

    private static void refusedInQueue(Supplier<ProphecyShop> made, int prophecy) {
        ProphecyShop s = made.get();
        int length = s.queueLength();
        int undoable = s.undoCount();
        Checks.due("48: it is in the queue", Checks.nameOfThrown(() -> s.ask(prophecy)), "IllegalStateException");
        Checks.due("48: as long as before", s.queueLength(), length);
        Checks.due("48: in the same place", s.placeInQueue(prophecy), prophecy);
        Checks.due("48: not a change", s.undoCount(), undoable);
    }

    /** The customer asks for a refund, whatever the state is. */
    private static void requestsInAnyState() {
        ProphecyShop s = Shops.single();
        s.sellPlain(0, 0, 0, 0, 60, 1);
        Checks.due("48: open", s.ask(0), 1);
        s.advance(1);
        s.happen(0, 0);
        Checks.due("48: fulfilled", s.ask(0), 1);
        s.sellDenial(0, 0, 0, 0, 1, 1);
        s.undo();
        s.sellPlain(0, 0, 0, 0, 1, 1);
        s.advance(1);
        Checks.due("48: failed", s.ask(1), 1);
        s.advance(1);
        Checks.due("25: refunded", s.stateOf(1), ProphecyShop.REFUNDED);
        Checks.due("48: refunded", s.ask(1), 1);
        Checks.due("48: a change", s.undoCount(), 8);
    }

    // ---- answers

    private static void answersBeforeAndAfter() {
        ProphecyShop s = Shops.single();
        s.sellPlain(0, 0, 0, 0, 2, 1);
        Checks.due("30: nothing was asked", s.answerFor(0), ProphecyShop.NO_ANSWER);
        s.ask(0);
        Checks.due("30: nothing was handled", s.answerFor(0), ProphecyShop.NO_ANSWER);
        s.advance(1);
        Checks.due("30: open on its last day", s.answerFor(0), ProphecyShop.STILL_OPEN);
        s.ask(0);
        Checks.due("30: the latest answer", s.answerFor(0), ProphecyShop.STILL_OPEN);
        s.advance(1);
        Checks.due("30: a newer one", s.answerFor(0), ProphecyShop.PAID);
        s.ask(0);
        s.advance(1);
        Checks.due("30: the newest", s.answerFor(0), ProphecyShop.ALREADY_PAID);
        s.undo();
        Checks.due("30: undone", s.answerFor(0), ProphecyShop.PAID);
        s.advance(60);
        Checks.due("30: no matter how long ago", s.answerFor(0), ProphecyShop.ALREADY_PAID);
    }

    /** TOO_LATE: the day minus the day on which it was decided is greater than the grace. */
    private static void graceIsOver() {
        int[] graces = {0, 1, 2, 59, 98, 99};
        for (int grace : graces) {
            String setup = "shop 9 9 " + grace + " 100 100;event a;place g;customer m 99 1;owl 1;";
            for (int late = -1; late <= 1; late++) {
                ProphecyShop s = Checks.loaded(setup);
                s.sellPlain(0, 0, 0, 0, 1, 1);
                s.sellDenial(0, 0, 0, 0, 3, 1);
                s.advance(1);
                s.happen(0, 0);
                int day = Math.max(1, 1 + grace + late);
                int want = late > 0 ? ProphecyShop.TOO_LATE : ProphecyShop.PAID;
                Shops.passTo(s, day);
                Checks.due("31: grace " + grace + ", day " + day, s.expectedAnswer(0), want);
                Checks.due("31: a denial", s.expectedAnswer(1), want);
                if (grace > 0) {
                    s.undo();
                    Shops.passTo(s, day - 1);
                    s.ask(0);
                    Checks.due("49: handled", s.advance(1), 1);
                    Checks.due("30: grace " + grace + ", day " + day, s.answerFor(0), want);
                }
            }
        }
        ProphecyShop s = Checks.loaded("shop 9 9 0 100 100;event a;place g;customer m 99 1;owl 1;owl 1;");
        s.sellPlain(0, 0, 0, 0, 1, 1);
        s.sellPlain(0, 0, 0, 0, 1, 1);
        s.ask(0);
        s.advance(1);
        s.ask(1);
        s.advance(1);
        Checks.due("30: no grace, on the day of the decision", s.answerFor(0), ProphecyShop.PAID);
        Checks.due("30: no grace, a day later", s.answerFor(1), ProphecyShop.TOO_LATE);
    }

    /** NO_CASH: the cash is less than the refund. */
    private static void cashIsGone() {
        for (int missing = -1; missing <= 1; missing++) {
            ProphecyShop s = Checks.loaded("shop " + (20 - missing)
                + " 9 9 200 200;event a;place g;customer m 99 1;owl 1;");
            s.sellPlain(0, 0, 0, 0, 1, 20);
            s.ask(0);
            s.advance(1);
            boolean paid = missing <= 0;
            Checks.due("30: coins missing " + missing, s.answerFor(0), paid ? ProphecyShop.PAID : ProphecyShop.NO_CASH);
            Checks.due("25: coins missing " + missing, s.stateOf(0),
                paid ? ProphecyShop.REFUNDED : ProphecyShop.FAILED);
            Checks.due("9: coins missing " + missing, s.cash(), paid ? -missing : 39);
            Checks.due("37: coins missing " + missing, s.refundTotal(), paid ? 40 : 0);
            Checks.due("32: coins missing " + missing, s.idleOwls(), paid ? 0 : 1);
            Checks.due("36: handled all the same", s.handledRequests(), 1);
            Checks.due("28: it has left the queue", s.queueLength(), 0);
        }
        ProphecyShop none = Checks.loaded("shop 0 9 9 0 200;event a;place g;customer m 99 1;owl 1;owl 1;");
        none.sellVague(0, 0, 0, 1, 1);
        none.sellVague(0, 0, 0, 1, 1);
        none.sellPlain(0, 0, 0, 0, 1, 2);
        none.ask(0);
        none.ask(1);
        none.ask(2);
        none.advance(1);
        Checks.due("30: twice the price of the first", none.answerFor(0), ProphecyShop.PAID);
        Checks.due("30: and of the second", none.answerFor(1), ProphecyShop.PAID);
        Checks.due("9: no cash is left", none.cash(), 0);
        Checks.due("30: no refund needs no cash, but an owl", none.answerFor(2), ProphecyShop.NO_ANSWER);
        Checks.due("31: no refund needs no cash", none.expectedAnswer(2), ProphecyShop.PAID);
        none.advance(2);
        Checks.due("30: the owl is back", none.answerFor(2), ProphecyShop.PAID);
        Checks.due("34: it carries nothing", none.owlCoins(0), 0);
        Checks.due("33: but it flies", none.owlDays(0), 1);
    }

    /** The first of the reasons that apply, for each pair of them. */
    private static void reasonsInOrder() {
        // Refunds of twice the price, which the shop has not got, and no grace.
        ProphecyShop s = Checks.loaded("shop 0 9 0 200 200;event a;event b;place g;customer m 99 1;owl 1;");
        s.sellPlain(0, 0, 0, 0, 60, 5);
        Checks.due("31: open before no cash", s.expectedAnswer(0), ProphecyShop.STILL_OPEN);
        s.happen(0, 0);
        Checks.due("31: fulfilled before no cash", s.expectedAnswer(0), ProphecyShop.IS_FULFILLED);
        s.advance(2);
        Checks.due("31: fulfilled before too late", s.expectedAnswer(0), ProphecyShop.IS_FULFILLED);
        s.sellPlain(0, 1, 0, 0, 1, 5);
        s.ask(1);
        s.advance(1);
        Checks.due("30: just enough", s.answerFor(1), ProphecyShop.PAID);
        Checks.due("31: already paid before no cash", s.expectedAnswer(1), ProphecyShop.ALREADY_PAID);
        s.advance(1);
        Checks.due("31: already paid before too late", s.expectedAnswer(1), ProphecyShop.ALREADY_PAID);
        s.sellDenial(0, 1, 0, 0, 1, 5);
        s.happen(1, 0);
        Checks.due("31: no cash", s.expectedAnswer(2), ProphecyShop.NO_CASH);
        s.advance(1);
        Checks.due("31: too late before no cash", s.expectedAnswer(2), ProphecyShop.TOO_LATE);
        Checks.due("32: no matter whether an owl is idle", s.idleOwls(), 1);
    }

    // ---- days

    /** Until the queue is empty, or as many requests as the counter rate were handled on this day. */
    private static void rateOfADay() {
        int[] rates = {1, 2, 5, 9};
        for (int rate : rates) {
            for (int requests = rate - 1; requests <= rate + 1; requests++) {
                ProphecyShop s = Checks.loaded("shop 0 " + rate + " 9 1 1;event a;place g;customer m 99 1;");
                for (int p = 0; p < requests; p++) {
                    s.sellPlain(0, 0, 0, 0, 60, 1);
                    s.ask(p);
                }
                String what = requests + " requests, rate " + rate;
                Checks.due("49: " + what, s.advance(1), Math.min(requests, rate));
                Checks.due("28: " + what, s.queueLength(), Math.max(0, requests - rate));
                Checks.due("49: " + what + ", the rest", s.advance(1), Math.max(0, requests - rate));
                Checks.due("36: " + what, s.handledRequests(), requests);
            }
        }
    }

    /** Or the next request would be PAID, but no owl is idle. */
    private static void noOwlIdle() {
        for (int owls = 0; owls <= 5; owls++) {
            ProphecyShop s = Checks.loaded("shop 0 9 9 100 100;event a;place g;customer m 99 30;"
                + "owl 1;".repeat(owls));
            for (int p = 0; p < 6; p++) {
                s.sellPlain(0, 0, 0, 0, 1, 1);
            }
            s.sellPlain(0, 0, 0, 0, 60, 1);
            s.ask(6);
            for (int p = 0; p < 6; p++) {
                s.ask(p);
            }
            Checks.due("49: the open one and one for each owl", s.advance(1), 1 + owls);
            Checks.due("32: none is idle", s.idleOwls(), 0);
            Checks.due("28: the others wait", s.queueLength(), 6 - owls);
            s.ask(6);
            Checks.due("49: those behind wait too", s.advance(9), 0);
            Checks.due("30: nothing was handled", s.answerFor(5), ProphecyShop.NO_ANSWER);
            Checks.due("31: paid, if an owl was idle", s.expectedAnswer(5), ProphecyShop.PAID);
            Checks.due("49: too late, so that no owl is needed", s.advance(1), 7 - owls);
            Checks.due("30: too late", s.answerFor(5), ProphecyShop.TOO_LATE);
            Checks.due("30: the one behind", s.answerFor(6), ProphecyShop.STILL_OPEN);
        }
        // Declined ones go on while no owl is idle, and each of them counts for the rate.
        ProphecyShop s = Checks.loaded("shop 0 3 9 100 100;event a;place g;customer m 99 30;owl 1;");
        s.sellPlain(0, 0, 0, 0, 1, 1);
        for (int p = 1; p < 5; p++) {
            s.sellPlain(0, 0, 0, 0, 60, 1);
        }
        for (int p = 0; p < 5; p++) {
            s.ask(p);
        }
        Checks.due("49: one paid and two declined", s.advance(1), 3);
        Checks.due("49: two declined", s.advance(1), 2);
    }

    /** A prophecy is decided and an owl comes back before the counter handles requests, on the same day. */
    private static void stepsOfADay() {
        ProphecyShop s = Checks.loaded("shop 0 9 0 100 100;event a;place g;customer m 10 1;owl 1;");
        s.sellPlain(0, 0, 0, 0, 1, 1);
        s.sellPlain(0, 0, 0, 0, 3, 2);
        s.sellDenial(0, 0, 0, 0, 1, 4);
        s.ask(0);
        s.ask(2);
        s.ask(1);
        Checks.due("49: paid, fulfilled, and still open", s.advance(1), 3);
        Checks.due("30: decided on this day", s.answerFor(0), ProphecyShop.PAID);
        Checks.due("30: decided on this day", s.answerFor(2), ProphecyShop.IS_FULFILLED);
        Checks.due("30: open until its last day is over", s.answerFor(1), ProphecyShop.STILL_OPEN);
        Checks.due("33: no day of the flight is over", s.owlDays(0), 1);
        s.ask(1);
        Checks.due("49: the coins arrive, the prophecy is open", s.advance(1), 1);
        Checks.due("14: the coins", s.purse(0), 4);
        s.ask(1);
        Checks.due("49: the owl is back, the prophecy has failed", s.advance(1), 1);
        Checks.due("30: with no grace", s.answerFor(1), ProphecyShop.PAID);
        Checks.due("34: the owl flies again at once", s.owlCoins(0), 2);
        Checks.due("33: for a day", s.owlDays(0), 1);
        s.advance(1);
        Checks.due("14: the coins", s.purse(0), 6);
        Checks.due("33: back for a day", s.owlDays(0), 1);
        s.advance(1);
        Checks.due("32: idle again", s.idleOwls(), 1);
    }

    private static void handledOnTheDayOfDecision() {
        ProphecyShop s = Shops.single();
        s.sellPlain(0, 0, 0, 1, 1, 1);
        s.ask(0);
        s.advance(1);
        Checks.due("30: on its only day", s.answerFor(0), ProphecyShop.STILL_OPEN);
        s.ask(0);
        s.happen(0, 0);
        s.advance(1);
        Checks.due("30: it has come true", s.answerFor(0), ProphecyShop.IS_FULFILLED);
        Checks.due("26: on its only day", s.decidedOn(0), 1);
        Checks.due("28: nothing waits", s.queueLength(), 0);
    }

    // ---- owls

    private static void owlNumbers() {
        int[] far = {MIN, -1, 5, MAX};
        for (int owl : far) {
            wrongOwl(Shops::largest, owl);
            wrongOwl(Shops::smallest, owl);
        }
        wrongOwl(Shops::smallest, 0);
        wrongOwl(Shops::single, 1);
        wrongOwl(ProphecyShop::new, 2);
        for (int owls = 1; owls <= 5; owls++) {
            String setup = Shops.SMALLEST + "owl 9;".repeat(owls);
            ProphecyShop s = Checks.loaded(setup);
            Checks.due("32: owls", s.idleOwls(), owls);
            Checks.due("33: the last owl", s.owlDays(owls - 1), 0);
            Checks.due("34: the last owl", s.owlCoins(owls - 1), 0);
            wrongOwl(() -> Checks.loaded(setup), owls);
        }
    }

    private static void wrongOwl(Supplier<ProphecyShop> made, int owl) {
        Checks.missing("33: owl " + owl, made, s -> s.owlDays(owl));
        Checks.missing("34: owl " + owl, made, s -> s.owlCoins(owl));
    }

    private static ProphecyShop fiveOwls() {
        ProphecyShop s = Shops.largest();
        for (int p = 0; p < 7; p++) {
            s.sellPlain(7, 0, 0, 0, 1, 11 * (p + 1));
        }
        return s;
    }

    private static void idleOwls() {
        for (int flights = 0; flights <= 5; flights++) {
            ProphecyShop s = fiveOwls();
            for (int p = 0; p < flights; p++) {
                s.ask(p);
            }
            s.advance(1);
            Checks.due("32: idle", s.idleOwls(), 5 - flights);
            for (int owl = 0; owl < 5; owl++) {
                // The eight miles, by a speed that is one more than the number of the owl.
                int days = (8 + owl) / (owl + 1);
                Checks.due("33: days", s.owlDays(owl), owl < flights ? days : 0);
                Checks.due("34: coins", s.owlCoins(owl), owl < flights ? 11 * (owl + 1) : 0);
            }
        }
    }

    /** The idle owl with the lowest number flies. */
    private static void lowestIdleOwl() {
        ProphecyShop s = fiveOwls();
        for (int p = 0; p < 5; p++) {
            s.ask(p);
        }
        s.advance(1);
        s.ask(5);
        s.ask(6);
        // The flights take 8, 4, 3, 2 and 2 days and as many back, so that the last two owls come back first.
        Checks.due("49: none is back", s.advance(3), 0);
        Checks.due("49: two are back", s.advance(1), 2);
        Checks.due("34: the lower one takes the first", s.owlCoins(3), 66);
        Checks.due("34: the higher one takes the second", s.owlCoins(4), 77);
        s.advance(2);
        Checks.due("32: owl 2 is back", s.idleOwls(), 1);
        Checks.due("33: owl 2 is back", s.owlDays(2), 0);
        Checks.due("33: owl 0 still flies", s.owlDays(0), 2);
    }

    /** The remaining days of the present flight, day by day, there and back. */
    private static void flightsAndDays() {
        ProphecyShop s = fiveOwls();
        for (int p = 0; p < 5; p++) {
            s.ask(p);
        }
        s.advance(1);
        int[] flights = {8, 4, 3, 2, 2};
        for (int day = 0; day <= 17; day++) {
            int idle = 0;
            int arrived = 0;
            for (int owl = 0; owl < 5; owl++) {
                int flight = flights[owl];
                int left = day < flight ? flight - day : day < 2 * flight ? 2 * flight - day : 0;
                Checks.due("33: owl " + owl + ", day " + day, s.owlDays(owl), left);
                Checks.due("34: owl " + owl + ", day " + day, s.owlCoins(owl), day < flight ? 11 * (owl + 1) : 0);
                idle += left == 0 ? 1 : 0;
                arrived += day < flight ? 0 : 11 * (owl + 1);
            }
            Checks.due("32: idle on day " + day, s.idleOwls(), idle);
            Checks.due("14: arrived on day " + day, s.purse(7), 9999 - 11 * 28 + arrived);
            Checks.due("40: none is lost on day " + day, s.contradictions(), 0);
            s.advance(1);
        }
    }

    // ---- advance

    private static void daysToPass() {
        int[] wrong = {MIN, MIN + 1, -60, -1, 0, 61, 62, 256, MAX - 1, MAX};
        for (int days : wrong) {
            Checks.badArgument("49: days " + days, ProphecyShop::new, s -> s.advance(days));
            Checks.badArgument("49: days " + days + " on the last day", () -> Shops.onDay(9999), s -> s.advance(days));
        }
        int[] right = {1, 2, 59, 60};
        for (int days : right) {
            ProphecyShop s = Shops.sold(1, days);
            Checks.due("49: no requests", s.advance(days), 0);
            Checks.due("8: days " + days, s.day(), days);
            Checks.due("25: decided after " + days, s.stateOf(0), ProphecyShop.FAILED);
            Checks.due("26: decided after " + days, s.decidedOn(0), days);
            Checks.due("53: one change", s.undoCount(), 2);
        }
    }

    /** IllegalStateException if the day would be greater than 9999. */
    private static void lastDay() {
        int[] days = {1, 2, 59, 60};
        for (int d : days) {
            ProphecyShop s = Shops.onDay(9998 - d);
            Checks.due("49: to day 9998", s.advance(d), 0);
            Checks.due("8: day 9998", s.day(), 9998);
            ProphecyShop t = Shops.onDay(9999 - d);
            Checks.due("49: to day 9999", t.advance(d), 0);
            Checks.due("8: day 9999", t.day(), 9999);
            Checks.badState("49: to day 10000", () -> Shops.onDay(10000 - d), u -> u.advance(d));
            Checks.badState("49: far beyond", () -> Shops.onDay(9999), u -> u.advance(d));
        }
        ProphecyShop s = Shops.onDay(9998);
        s.sellPlain(1, 0, 0, 0, 1, 1);
        s.ask(0);
        Checks.due("49: the last day is one like the others", s.advance(1), 1);
        Checks.due("30: on the last day", s.answerFor(0), ProphecyShop.PAID);
        Checks.due("26: on the last day", s.decidedOn(0), 9999);
        Checks.due("47: on the last day", s.happen(0, 0), 0);
        Checks.due("16: on the last day", s.hasHappened(0, 0, 9999), true);
    }

    /** The number of requests that are handled in these days. */
    private static void requestsOfManyDays() {
        ProphecyShop s = Shops.sold(24, 60);
        for (int p = 0; p < 24; p++) {
            s.ask(p);
        }
        Checks.due("49: two a day", s.advance(11), 22);
        Checks.due("49: until the queue is empty", s.advance(60), 2);
        Checks.due("49: none", s.advance(60), 0);
        Checks.due("36: all", s.handledRequests(), 24);
        ProphecyShop fast = Checks.loaded(Shops.LARGEST);
        for (int p = 0; p < 24; p++) {
            fast.sellVague(p % 8, 0, 0, 60, 1);
            fast.ask(p);
        }
        Checks.due("49: nine", fast.advance(1), 9);
        Checks.due("49: the rest", fast.advance(2), 15);
    }
}
