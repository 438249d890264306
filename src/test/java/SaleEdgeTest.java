import java.util.LinkedHashMap;
import java.util.Map;
import java.util.function.Consumer;
import java.util.function.Supplier;

/** The edges of promises 18 to 27 and 44 to 46: prophecies and their sale. */
public final class SaleEdgeTest {
    private static final int NONE = ProphecyShop.NONE;
    private static final int MIN = Integer.MIN_VALUE;
    private static final int MAX = Integer.MAX_VALUE;

    /** The three methods that sell; a vague prophecy has no place. */
    private enum Kind {
        PLAIN(44), VAGUE(45), DENIAL(46);

        final int promise;

        Kind(int promise) {
            this.promise = promise;
        }

        int sell(ProphecyShop s, int customer, int event, int place, int delay, int length, int price) {
            switch (this) {
                case PLAIN: return s.sellPlain(customer, event, place, delay, length, price);
                case VAGUE: return s.sellVague(customer, event, delay, length, price);
                default: return s.sellDenial(customer, event, place, delay, length, price);
            }
        }
    }

    public static void main(String[] args) {
        noSuchProphecy();
        lastProphecy();
        for (Kind kind : Kind.values()) {
            noSuchNumbers(kind);
            lastNumbers(kind);
            delays(kind);
            lengths(kind);
            prices(kind);
            purse(kind);
            twentyFour(kind);
            orderOfExceptions(kind);
            onTheLastDay(kind);
        }
        daysOfDecision();
        happeningsOfDecision();
        decidedOnNothing();
        refunds();
        Checks.end("SaleEdgeTest");
    }

    // ---- the number of a prophecy

    private static Map<Integer, Consumer<ProphecyShop>> callsWith(int prophecy) {
        Map<Integer, Consumer<ProphecyShop>> calls = new LinkedHashMap<>();
        calls.put(19, s -> s.customerOf(prophecy));
        calls.put(20, s -> s.eventOf(prophecy));
        calls.put(21, s -> s.placeOf(prophecy));
        calls.put(22, s -> s.isDenial(prophecy));
        calls.put(23, s -> s.firstDay(prophecy));
        calls.put(24, s -> s.lastDay(prophecy));
        calls.put(25, s -> s.stateOf(prophecy));
        calls.put(26, s -> s.decidedOn(prophecy));
        calls.put(27, s -> s.refundOf(prophecy));
        calls.put(29, s -> s.placeInQueue(prophecy));
        calls.put(30, s -> s.answerFor(prophecy));
        calls.put(31, s -> s.expectedAnswer(prophecy));
        calls.put(41, s -> s.daysUntilDecided(prophecy));
        calls.put(42, s -> s.daysUntilRefunded(prophecy));
        calls.put(48, s -> s.ask(prophecy));
        calls.put(50, s -> s.writeProphecy(prophecy));
        return calls;
    }

    private static void missing(String when, Supplier<ProphecyShop> made, int prophecy) {
        callsWith(prophecy).forEach((promise, call) ->
            Checks.missing(promise + ": prophecy " + prophecy + " " + when, made, call));
    }

    private static void noSuchProphecy() {
        int[] far = {MIN, -24, -1, 24, 25, 255, 256, MAX};
        for (int prophecy : far) {
            missing("of none", ProphecyShop::new, prophecy);
            missing("of one", () -> Shops.sold(1, 1), prophecy);
            missing("of 24", () -> Shops.sold(24, 1), prophecy);
        }
        missing("of none", ProphecyShop::new, 0);
        missing("of one", () -> Shops.sold(1, 1), 1);
        missing("of 23", () -> Shops.sold(23, 1), 23);
        missing("that is undone", () -> {
            ProphecyShop s = Shops.sold(2, 1);
            s.undo();
            return s;
        }, 1);
        missing("that is not in the slot", () -> {
            ProphecyShop s = Shops.sold(1, 1);
            s.save(0);
            s.sellVague(1, 0, 0, 1, 1);
            s.restore(0);
            return s;
        }, 1);
    }

    private static void lastProphecy() {
        int[] counts = {1, 2, 23, 24};
        for (int count : counts) {
            ProphecyShop s = Shops.sold(count, 1);
            int last = count - 1;
            Checks.due("18: prophecies", s.prophecyCount(), count);
            Checks.due("19: the last one", s.customerOf(last), 1);
            Checks.due("20: the last one", s.eventOf(last), last % 2);
            Checks.due("21: the last one", s.placeOf(last), NONE);
            Checks.due("22: the last one", s.isDenial(last), false);
            Checks.due("23: the last one", s.firstDay(last), 0);
            Checks.due("24: the last one", s.lastDay(last), 0);
            Checks.due("25: the last one", s.stateOf(last), ProphecyShop.OPEN);
            Checks.due("27: the last one", s.refundOf(last), 0);
            Checks.due("29: the last one", s.placeInQueue(last), NONE);
            Checks.due("30: the last one", s.answerFor(last), ProphecyShop.NO_ANSWER);
            Checks.due("31: the last one", s.expectedAnswer(last), ProphecyShop.STILL_OPEN);
            Checks.due("41: the last one", s.daysUntilDecided(last), 1);
            Checks.due("42: the last one", s.daysUntilRefunded(last), NONE);
            Checks.due("50: the last one", s.writeProphecy(last), "ben:war@* 0-0".length() + 1 - last % 2);
            Checks.due("48: the last one", s.ask(last), 1);
            s.advance(1);
            Checks.due("26: the last one", s.decidedOn(last), 1);
        }
        Checks.due("18: none", new ProphecyShop().prophecyCount(), 0);
    }

    // ---- what is sold

    private static void noSuchNumbers(Kind kind) {
        int[] far = {MIN, -1, 8, MAX};
        for (int n : far) {
            wrongNumber(kind, Shops::largest, n, 0, 0);
            wrongNumber(kind, Shops::largest, 0, n, 0);
            wrongNumber(kind, Shops::largest, 0, 0, n);
        }
        wrongNumber(kind, Shops::largest, 0, 6, 0);
        wrongNumber(kind, Shops::largest, 0, 0, 6);
        wrongNumber(kind, Shops::single, 1, 0, 0);
        wrongNumber(kind, Shops::single, 0, 1, 0);
        wrongNumber(kind, Shops::single, 0, 0, 1);
        wrongNumber(kind, ProphecyShop::new, 3, 0, 0);
        wrongNumber(kind, ProphecyShop::new, 0, 2, 0);
        wrongNumber(kind, ProphecyShop::new, 0, 0, 3);
        wrongNumber(kind, Shops::smallest, 0, 0, 0);
        // Each number has its own bound: two customers, three events, four places, and the other way round.
        Supplier<ProphecyShop> rising = () -> Checks.loaded("shop 1 1 1 1 1;event a;event b;event c;place a;place b;"
            + "place c;place d;customer a 9 1;customer b 9 1;");
        wrongNumber(kind, rising, 2, 0, 0);
        wrongNumber(kind, rising, 0, 3, 0);
        wrongNumber(kind, rising, 0, 0, 4);
        Supplier<ProphecyShop> falling = () -> Checks.loaded("shop 1 1 1 1 1;event a;event b;event c;place a;place b;"
            + "customer a 9 1;customer b 9 1;customer c 9 1;customer d 9 1;");
        wrongNumber(kind, falling, 4, 0, 0);
        wrongNumber(kind, falling, 0, 3, 0);
        wrongNumber(kind, falling, 0, 0, 2);
    }

    private static void wrongNumber(Kind kind, Supplier<ProphecyShop> made, int customer, int event, int place) {
        if (kind == Kind.VAGUE && place != 0) {
            return;
        }
        Checks.missing(kind.promise + ": customer " + customer + ", event " + event + ", place " + place, made,
            s -> kind.sell(s, customer, event, place, 0, 1, 1));
    }

    private static void lastNumbers(Kind kind) {
        ProphecyShop s = Shops.largest();
        Checks.due(kind.promise + ": the first numbers", kind.sell(s, 0, 0, 0, 0, 1, 1), 0);
        Checks.due(kind.promise + ": the last numbers", kind.sell(s, 7, 5, 5, 0, 1, 2), 1);
        Checks.due("19: the first customer", s.customerOf(0), 0);
        Checks.due("20: the first event", s.eventOf(0), 0);
        Checks.due("21: the first place", s.placeOf(0), kind == Kind.VAGUE ? NONE : 0);
        Checks.due("22: denial", s.isDenial(0), kind == Kind.DENIAL);
        Checks.due("19: the last customer", s.customerOf(1), 7);
        Checks.due("20: the last event", s.eventOf(1), 5);
        Checks.due("21: the last place", s.placeOf(1), kind == Kind.VAGUE ? NONE : 5);
        Checks.due("22: denial", s.isDenial(1), kind == Kind.DENIAL);
        Checks.due(kind.promise + ": the last customer has paid", s.purse(7), 9997);
        Checks.due(kind.promise + ": nobody else has", s.purse(6), 9999);
        Checks.due(kind.promise + ": the shop has got it", s.cash(), 3);
        Checks.due(kind.promise + ": changes", s.undoCount(), 2);
    }

    private static void delays(Kind kind) {
        int[] wrong = {MIN, -1, 100, 101, 256, MAX};
        for (int delay : wrong) {
            Checks.badArgument(kind.promise + ": delay " + delay, ProphecyShop::new,
                s -> kind.sell(s, 1, 0, 0, delay, 1, 1));
        }
        int[] right = {0, 1, 98, 99};
        for (int delay : right) {
            ProphecyShop s = Shops.onDay(3);
            kind.sell(s, 1, 0, 0, delay, 1, 1);
            Checks.due("23: delay " + delay, s.firstDay(0), 3 + delay);
            Checks.due("24: delay " + delay, s.lastDay(0), 3 + delay);
            Checks.due("41: delay " + delay, s.daysUntilDecided(0), delay + 1);
        }
    }

    private static void lengths(Kind kind) {
        int[] wrong = {MIN, -1, 0, 61, 62, 257, MAX};
        for (int length : wrong) {
            Checks.badArgument(kind.promise + ": length " + length, ProphecyShop::new,
                s -> kind.sell(s, 1, 0, 0, 0, length, 1));
        }
        int[] right = {1, 2, 59, 60};
        for (int length : right) {
            ProphecyShop s = Shops.onDay(3);
            kind.sell(s, 1, 0, 0, 2, length, 1);
            Checks.due("23: length " + length, s.firstDay(0), 5);
            Checks.due("24: length " + length, s.lastDay(0), 4 + length);
            Checks.due("41: length " + length, s.daysUntilDecided(0), 2 + length);
        }
    }

    private static void prices(Kind kind) {
        int[] wrong = {MIN, -1, 0, 1000, 1001, MAX};
        for (int price : wrong) {
            Checks.badArgument(kind.promise + ": price " + price, Shops::single,
                s -> kind.sell(s, 0, 0, 0, 0, 1, price));
        }
        int[] right = {1, 2, 998, 999};
        for (int price : right) {
            ProphecyShop s = Shops.single();
            kind.sell(s, 0, 0, 0, 0, 1, price);
            Checks.due(kind.promise + ": paid " + price, s.purse(0), 9999 - price);
            Checks.due(kind.promise + ": got " + price, s.cash(), price);
            Checks.due("39: price " + price, s.meanPrice(), (double) price);
        }
    }

    /** IllegalStateException if the purse contains less than the price. */
    private static void purse(Kind kind) {
        int[] purses = {0, 1, 2, 500, 998, 999, 1000};
        for (int purse : purses) {
            Supplier<ProphecyShop> made = () -> Checks.loaded("shop 0 1 1 1 1;event a;place a;customer a "
                + purse + " 1;customer b 9999 1;");
            for (int price = Math.max(1, purse - 1); price <= Math.min(999, purse + 1); price++) {
                int coins = price;
                if (price <= purse) {
                    ProphecyShop s = made.get();
                    Checks.due(kind.promise + ": price " + price, kind.sell(s, 0, 0, 0, 0, 1, price), 0);
                    Checks.due("14: of " + purse, s.purse(0), purse - price);
                } else {
                    Checks.badState(kind.promise + ": price " + price + " of " + purse, made,
                        s -> kind.sell(s, 0, 0, 0, 0, 1, coins));
                }
            }
        }
    }

    /** IllegalStateException if 24 prophecies were sold. */
    private static void twentyFour(Kind kind) {
        ProphecyShop s = Shops.sold(22, 1);
        Checks.due(kind.promise + ": the 23rd", kind.sell(s, 1, 0, 0, 0, 1, 1), 22);
        Checks.due(kind.promise + ": the 24th", kind.sell(s, 1, 0, 0, 0, 1, 1), 23);
        Checks.due("18: 24", s.prophecyCount(), 24);
        Checks.due("22: the 24th", s.isDenial(23), kind == Kind.DENIAL);
        Checks.badState(kind.promise + ": the 25th", () -> Shops.sold(24, 1), t -> kind.sell(t, 1, 0, 0, 0, 1, 1));
        Checks.badState(kind.promise + ": the 25th, after the others were decided", () -> {
            ProphecyShop t = Shops.sold(24, 1);
            t.advance(60);
            return t;
        }, t -> kind.sell(t, 1, 0, 0, 0, 1, 1));
        s.undo();
        Checks.due(kind.promise + ": the 24th again", kind.sell(s, 1, 0, 0, 0, 1, 1), 23);
    }

    /** If several exceptions apply, the one that is listed first is thrown. */
    private static void orderOfExceptions(Kind kind) {
        Supplier<ProphecyShop> full = () -> Shops.sold(24, 1);
        int[][] numbers = {{3, 0, 0}, {-1, 0, 0}, {0, 2, 0}, {0, -1, 0}, {0, 0, 3}, {0, 0, -1}};
        int[][] values = {{-1, 1, 1}, {100, 1, 1}, {0, 0, 1}, {0, 61, 1}, {0, 1, 0}, {0, 1, 1000}, {-1, 0, 0}};
        for (int[] n : numbers) {
            if (kind != Kind.VAGUE || n[2] == 0) {
                for (int[] v : values) {
                    Checks.missing(kind.promise + ": a number before a value", ProphecyShop::new,
                        s -> kind.sell(s, n[0], n[1], n[2], v[0], v[1], v[2]));
                }
                Checks.missing(kind.promise + ": a number before the purse", ProphecyShop::new,
                    s -> kind.sell(s, n[0], n[1], n[2], 0, 1, 999));
                Checks.missing(kind.promise + ": a number before the 25th", full,
                    s -> kind.sell(s, n[0], n[1], n[2], 0, 1, 1));
            }
        }
        for (int[] v : values) {
            Checks.badArgument(kind.promise + ": a value before the 25th", full,
                s -> kind.sell(s, 0, 0, 0, v[0], v[1], v[2]));
            Checks.badArgument(kind.promise + ": a value before the purse", () -> {
                ProphecyShop s = new ProphecyShop();
                s.sellVague(2, 0, 0, 1, 20);
                return s;
            }, s -> kind.sell(s, 2, 0, 0, v[0], v[1], v[2]));
        }
    }

    /** A prophecy may tell of days that never come. */
    private static void onTheLastDay(Kind kind) {
        ProphecyShop s = Shops.onDay(9999);
        kind.sell(s, 1, 0, 0, 0, 1, 1);
        kind.sell(s, 1, 0, 0, 99, 60, 1);
        Checks.due("23: the last day", s.firstDay(0), 9999);
        Checks.due("24: the last day", s.lastDay(0), 9999);
        Checks.due("23: the latest first day", s.firstDay(1), 10098);
        Checks.due("24: the latest last day", s.lastDay(1), 10157);
        Checks.due("47: only the first one is decided", s.happen(0, 0), 1);
        Checks.due("26: on the last day", s.decidedOn(0), 9999);
    }

    // ---- states

    private static void state(String what, ProphecyShop s, int prophecy, int state, int day) {
        Checks.due("25: " + what, s.stateOf(prophecy), state);
        if (state == ProphecyShop.OPEN) {
            Checks.due("26: " + what, Checks.nameOfThrown(() -> s.decidedOn(prophecy)), "NoSuchElementException");
        } else {
            Checks.due("26: " + what, s.decidedOn(prophecy), day);
        }
    }

    /** Each OPEN prophecy whose last day is less than the day is decided. */
    private static void daysOfDecision() {
        int[] delays = {0, 1, 99};
        int[] lengths = {1, 2, 60};
        for (int delay : delays) {
            for (int length : lengths) {
                int last = 4 + delay + length - 1;
                ProphecyShop s = Shops.onDay(4);
                s.sellPlain(1, 0, 0, delay, length, 1);
                s.sellVague(1, 0, delay, length, 1);
                s.sellDenial(1, 0, 0, delay, length, 1);
                Shops.passTo(s, last);
                for (int p = 0; p < 3; p++) {
                    state("on the last day", s, p, ProphecyShop.OPEN, 0);
                }
                s.advance(1);
                state("a plain one a day later", s, 0, ProphecyShop.FAILED, last + 1);
                state("a vague one a day later", s, 1, ProphecyShop.FAILED, last + 1);
                state("a denial a day later", s, 2, ProphecyShop.FULFILLED, last + 1);
                s.happen(0, 0);
                s.advance(1);
                state("a plain one two days later", s, 0, ProphecyShop.FAILED, last + 1);
                state("a denial two days later", s, 2, ProphecyShop.FULFILLED, last + 1);
            }
        }
    }

    /** Each OPEN prophecy with this event whose first day is not greater than the day, and which has this place. */
    private static void happeningsOfDecision() {
        int first = 5;
        int last = 8;
        for (int day = 3; day <= 10; day++) {
            ProphecyShop s = new ProphecyShop();
            s.sellPlain(1, 0, 1, first, last - first + 1, 1);
            s.sellVague(1, 0, first, last - first + 1, 1);
            s.sellDenial(1, 0, 1, first, last - first + 1, 1);
            Shops.passTo(s, day);
            boolean within = day >= first && day <= last;
            Checks.due("47: another event on day " + day, s.happen(1, 1), 0);
            Checks.due("47: another place on day " + day, s.happen(0, 0), within ? 1 : 0);
            Checks.due("47: on day " + day, s.happen(0, 1), within ? 2 : 0);
            int late = last + 1;
            int open = day < first ? ProphecyShop.OPEN : ProphecyShop.FAILED;
            state("plain, day " + day, s, 0, within ? ProphecyShop.FULFILLED : open, within ? day : late);
            state("vague, day " + day, s, 1, within ? ProphecyShop.FULFILLED : open, within ? day : late);
            int denied = day < first ? ProphecyShop.OPEN : ProphecyShop.FULFILLED;
            state("denial, day " + day, s, 2, within ? ProphecyShop.FAILED : denied, within ? day : late);
        }
    }

    private static void decidedOnNothing() {
        Checks.noSuchElement("26: open", () -> Shops.sold(1, 1), s -> s.decidedOn(0));
        Checks.noSuchElement("26: the 24th", () -> Shops.sold(24, 60), s -> s.decidedOn(23));
        Checks.noSuchElement("26: on its last day", () -> {
            ProphecyShop s = Shops.sold(1, 60);
            s.advance(59);
            return s;
        }, s -> s.decidedOn(0));
        Checks.noSuchElement("26: undone", () -> {
            ProphecyShop s = Shops.sold(1, 1);
            s.happen(0, 0);
            s.undo();
            return s;
        }, s -> s.decidedOn(0));
        Checks.missing("26: the number first", () -> Shops.sold(1, 1), s -> s.decidedOn(1));
        ProphecyShop s = Shops.sold(1, 1);
        s.happen(0, 0);
        Checks.due("26: on day 0", s.decidedOn(0), 0);
    }

    /** The price times the percentage divided by 100, rounded down. */
    private static void refunds() {
        int[] percentages = {0, 1, 33, 50, 99, 100, 101, 199, 200};
        int[] prices = {1, 2, 3, 50, 99, 100, 101, 998, 999};
        for (int percentage : percentages) {
            ProphecyShop plain = Checks.loaded("shop 0 1 1 " + percentage + " 7;event a;place a;customer a 9999 1;");
            ProphecyShop vague = Checks.loaded("shop 0 1 1 7 " + percentage + ";event a;place a;customer a 9999 1;");
            for (int i = 0; i < prices.length; i++) {
                long want = (long) Math.floor(prices[i] * (percentage / 100.0) + 1e-9);
                String what = "27: " + percentage + " percent of " + prices[i];
                plain.sellPlain(0, 0, 0, 0, 1, prices[i]);
                plain.sellDenial(0, 0, 0, 0, 1, prices[i]);
                vague.sellVague(0, 0, 0, 1, prices[i]);
                Checks.due(what + ", plain", plain.refundOf(2 * i), want);
                Checks.due(what + ", denial", plain.refundOf(2 * i + 1), want);
                Checks.due(what + ", vague", vague.refundOf(i), want);
            }
        }
    }
}
