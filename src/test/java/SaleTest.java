import java.util.function.Supplier;

/** Promises 18 to 27 and 44 to 46: prophecies and their sale. */
public final class SaleTest {
    private static final int NONE = ProphecyShop.NONE;
    private static final int[] FAR = {Integer.MIN_VALUE, -2, -1, 24, 25, Integer.MAX_VALUE};

    public static void main(String[] args) {
        whatIsSold();
        sellingMovesCoins();
        wrongNumbers();
        wrongValues();
        wrongStates();
        orderOfExceptions();
        noSuchProphecy();
        decidedOn();
        refundOf();
        Checks.end("SaleTest");
    }

    private static void whatIsSold() {
        ProphecyShop s = new ProphecyShop();
        s.advance(7);
        Checks.due("18: none", s.prophecyCount(), 0);
        Checks.due("44: number", s.sellPlain(1, 0, 2, 3, 5, 10), 0);
        Checks.due("45: number", s.sellVague(2, 1, 0, 1, 11), 1);
        Checks.due("46: number", s.sellDenial(0, 1, 0, 99, 60, 12), 2);
        Checks.due("18: count", s.prophecyCount(), 3);
        int[][] want = {{1, 0, 2, 0, 10, 14}, {2, 1, NONE, 0, 7, 7}, {0, 1, 0, 1, 106, 165}};
        for (int p = 0; p < 3; p++) {
            Checks.due("19: customer of " + p, s.customerOf(p), want[p][0]);
            Checks.due("20: event of " + p, s.eventOf(p), want[p][1]);
            Checks.due("21: place of " + p, s.placeOf(p), want[p][2]);
            Checks.due("22: denial " + p, s.isDenial(p), want[p][3] == 1);
            Checks.due("23: first day of " + p, s.firstDay(p), want[p][4]);
            Checks.due("24: last day of " + p, s.lastDay(p), want[p][5]);
            Checks.due("25: state of " + p, s.stateOf(p), ProphecyShop.OPEN);
            Checks.due("30: answer for " + p, s.answerFor(p), ProphecyShop.NO_ANSWER);
            Checks.due("29: place in queue of " + p, s.placeInQueue(p), NONE);
        }
        Checks.due("44 to 46 are changes", s.undoCount(), 4);
    }

    private static void sellingMovesCoins() {
        ProphecyShop s = new ProphecyShop();
        s.sellPlain(0, 0, 0, 0, 1, 80);
        Checks.due("44: the whole purse", s.purse(0), 0);
        Checks.due("44: the cash", s.cash(), 180);
        s.sellVague(1, 0, 0, 1, 1);
        Checks.due("45: the purse", s.purse(1), 299);
        Checks.due("45: the cash", s.cash(), 181);
        s.sellDenial(1, 0, 0, 0, 1, 299);
        Checks.due("46: the purse", s.purse(1), 0);
        Checks.due("46: the cash", s.cash(), 480);
        ProphecyShop rich = Checks.loaded("shop 0 1 1 1 1;event a;place a;customer a 9999 1;");
        rich.sellPlain(0, 0, 0, 0, 1, 999);
        Checks.due("44: the highest price", rich.purse(0), 9000);
    }

    private static void wrongNumbers() {
        int[] numbers = {Integer.MIN_VALUE, -1, 3, 8, Integer.MAX_VALUE};
        for (int n : numbers) {
            Checks.missing("44: customer " + n, ProphecyShop::new, s -> s.sellPlain(n, 0, 0, 0, 1, 1));
            Checks.missing("45: customer " + n, ProphecyShop::new, s -> s.sellVague(n, 0, 0, 1, 1));
            Checks.missing("46: customer " + n, ProphecyShop::new, s -> s.sellDenial(n, 0, 0, 0, 1, 1));
            Checks.missing("44: event " + n, ProphecyShop::new, s -> s.sellPlain(0, n, 0, 0, 1, 1));
            Checks.missing("45: event " + n, ProphecyShop::new, s -> s.sellVague(0, n, 0, 1, 1));
            Checks.missing("46: event " + n, ProphecyShop::new, s -> s.sellDenial(0, n, 0, 0, 1, 1));
            Checks.missing("44: place " + n, ProphecyShop::new, s -> s.sellPlain(0, 0, n, 0, 1, 1));
            Checks.missing("46: place " + n, ProphecyShop::new, s -> s.sellDenial(0, 0, n, 0, 1, 1));
        }
        Checks.missing("44: no third event", ProphecyShop::new, s -> s.sellPlain(0, 2, 0, 0, 1, 1));
        Checks.missing("45: no third event", ProphecyShop::new, s -> s.sellVague(0, 2, 0, 1, 1));
        Checks.missing("46: no third event", ProphecyShop::new, s -> s.sellDenial(0, 2, 0, 0, 1, 1));
    }

    private static void wrongValues() {
        int[] delays = {Integer.MIN_VALUE, -1, 100, Integer.MAX_VALUE};
        int[] lengths = {Integer.MIN_VALUE, -1, 0, 61, Integer.MAX_VALUE};
        int[] prices = {Integer.MIN_VALUE, -1, 0, 1000, Integer.MAX_VALUE};
        for (int d : delays) {
            Checks.badArgument("44: delay " + d, ProphecyShop::new, s -> s.sellPlain(1, 0, 0, d, 1, 1));
            Checks.badArgument("45: delay " + d, ProphecyShop::new, s -> s.sellVague(1, 0, d, 1, 1));
            Checks.badArgument("46: delay " + d, ProphecyShop::new, s -> s.sellDenial(1, 0, 0, d, 1, 1));
        }
        for (int n : lengths) {
            Checks.badArgument("44: length " + n, ProphecyShop::new, s -> s.sellPlain(1, 0, 0, 0, n, 1));
            Checks.badArgument("45: length " + n, ProphecyShop::new, s -> s.sellVague(1, 0, 0, n, 1));
            Checks.badArgument("46: length " + n, ProphecyShop::new, s -> s.sellDenial(1, 0, 0, 0, n, 1));
        }
        for (int p : prices) {
            Checks.badArgument("44: price " + p, ProphecyShop::new, s -> s.sellPlain(1, 0, 0, 0, 1, p));
            Checks.badArgument("45: price " + p, ProphecyShop::new, s -> s.sellVague(1, 0, 0, 1, p));
            Checks.badArgument("46: price " + p, ProphecyShop::new, s -> s.sellDenial(1, 0, 0, 0, 1, p));
        }
    }

    private static void wrongStates() {
        Checks.badState("44: a coin too much", ProphecyShop::new, s -> s.sellPlain(0, 0, 0, 0, 1, 81));
        Checks.badState("45: a coin too much", ProphecyShop::new, s -> s.sellVague(0, 0, 0, 1, 81));
        Checks.badState("46: a coin too much", ProphecyShop::new, s -> s.sellDenial(0, 0, 0, 0, 1, 81));
        ProphecyShop s = new ProphecyShop();
        for (int i = 0; i < 24; i++) {
            Checks.due("44: number", i % 3 == 0 ? s.sellPlain(1, 0, 0, 0, 1, 1)
                : i % 3 == 1 ? s.sellVague(1, 0, 0, 1, 1) : s.sellDenial(1, 0, 0, 0, 1, 1), i);
        }
        Checks.due("18: most prophecies", s.prophecyCount(), 24);
        Checks.due("22: the last one", s.isDenial(23), true);
        Checks.badState("44: the 25th", () -> Shops.sold(24, 1), t -> t.sellPlain(1, 0, 0, 0, 1, 1));
        Checks.badState("45: the 25th", () -> Shops.sold(24, 1), t -> t.sellVague(1, 0, 0, 1, 1));
        Checks.badState("46: the 25th", () -> Shops.sold(24, 1), t -> t.sellDenial(1, 0, 0, 0, 1, 1));
        s.advance(1);
        Checks.due("44: decided ones count too", Checks.nameOfThrown(() -> s.sellPlain(1, 0, 0, 0, 1, 1)),
            "IllegalStateException");
        s.undo();
        s.undo();
        Checks.due("44: one is taken back", s.sellPlain(0, 1, 1, 0, 1, 1), 23);
    }

    private static void orderOfExceptions() {
        Checks.missing("44: the number before the rest", ProphecyShop::new, s -> s.sellPlain(2, 0, 3, 100, 0, 1000));
        Checks.missing("45: the number before the rest", ProphecyShop::new, s -> s.sellVague(2, 2, 100, 0, 1000));
        Checks.missing("46: the number before the rest", ProphecyShop::new, s -> s.sellDenial(2, 0, -1, 100, 0, 1000));
        Checks.missing("44: the number before the purse", ProphecyShop::new, s -> s.sellPlain(2, 0, 3, 0, 1, 999));
        Checks.badArgument("44: the values before the purse", ProphecyShop::new, s -> s.sellPlain(2, 0, 0, 0, 1, 1000));
        Checks.badArgument("45: the values before the purse", ProphecyShop::new, s -> s.sellVague(2, 0, 100, 1, 999));
        Checks.badArgument("46: the values before the purse", ProphecyShop::new,
            s -> s.sellDenial(2, 0, 0, 0, 61, 999));
    }

    private static ProphecyShop twoSold() {
        ProphecyShop s = new ProphecyShop();
        s.sellPlain(0, 0, 0, 0, 1, 1);
        s.sellVague(0, 0, 0, 1, 1);
        return s;
    }

    private static void noSuchProphecy() {
        for (int n : FAR) {
            noSuchProphecy(SaleTest::twoSold, n);
        }
        noSuchProphecy(SaleTest::twoSold, 2);
        noSuchProphecy(() -> {
            ProphecyShop s = twoSold();
            s.undo();
            return s;
        }, 1);
    }

    private static void noSuchProphecy(Supplier<ProphecyShop> made, int n) {
        Checks.missing("19: " + n, made, s -> s.customerOf(n));
        Checks.missing("20: " + n, made, s -> s.eventOf(n));
        Checks.missing("21: " + n, made, s -> s.placeOf(n));
        Checks.missing("22: " + n, made, s -> s.isDenial(n));
        Checks.missing("23: " + n, made, s -> s.firstDay(n));
        Checks.missing("24: " + n, made, s -> s.lastDay(n));
        Checks.missing("25: " + n, made, s -> s.stateOf(n));
        Checks.missing("26: " + n, made, s -> s.decidedOn(n));
        Checks.missing("27: " + n, made, s -> s.refundOf(n));
        Checks.missing("29: " + n, made, s -> s.placeInQueue(n));
        Checks.missing("30: " + n, made, s -> s.answerFor(n));
        Checks.missing("31: " + n, made, s -> s.expectedAnswer(n));
        Checks.missing("41: " + n, made, s -> s.daysUntilDecided(n));
        Checks.missing("42: " + n, made, s -> s.daysUntilRefunded(n));
        Checks.missing("48: " + n, made, s -> s.ask(n));
        Checks.missing("50: " + n, made, s -> s.writeProphecy(n));
    }

    private static void decidedOn() {
        ProphecyShop s = new ProphecyShop();
        s.sellPlain(1, 0, 0, 1, 2, 9);
        s.sellPlain(1, 0, 0, 1, 9, 9);
        s.sellDenial(1, 1, 1, 0, 9, 9);
        Checks.refused("26: open", s, java.util.NoSuchElementException.class, () -> s.decidedOn(0));
        s.advance(3);
        Checks.due("26: its last day was yesterday", s.decidedOn(0), 3);
        Checks.due("25: its last day was yesterday", s.stateOf(0), ProphecyShop.FAILED);
        Checks.refused("26: still open", s, java.util.NoSuchElementException.class, () -> s.decidedOn(1));
        s.ask(0);
        s.happen(0, 0);
        s.advance(2);
        Checks.due("26: by an event", s.decidedOn(1), 3);
        Checks.due("25: by an event", s.stateOf(1), ProphecyShop.FULFILLED);
        Checks.due("25: refunded", s.stateOf(0), ProphecyShop.REFUNDED);
        Checks.due("26: of a refunded one", s.decidedOn(0), 3);
        s.happen(1, 1);
        Checks.due("26: a denial by an event", s.decidedOn(2), 5);
        Checks.due("25: a denial by an event", s.stateOf(2), ProphecyShop.FAILED);
    }

    private static void refundOf() {
        ProphecyShop s = Checks.loaded("shop 0 1 99 33 199;event a;place a;customer c 9999 1;owl 1;");
        s.sellPlain(0, 0, 0, 0, 1, 100);
        s.sellPlain(0, 0, 0, 0, 1, 3);
        s.sellPlain(0, 0, 0, 0, 1, 4);
        s.sellVague(0, 0, 0, 1, 1);
        s.sellVague(0, 0, 0, 1, 999);
        s.sellDenial(0, 0, 0, 0, 1, 999);
        int[] want = {33, 0, 1, 1, 1988, 329};
        for (int p = 0; p < want.length; p++) {
            Checks.due("27: refund of " + p, s.refundOf(p), want[p]);
        }
        s.happen(0, 0);
        Checks.due("27: whatever the state is", s.refundOf(0), 33);
        s.ask(5);
        s.advance(1);
        Checks.due("25: refunded", s.stateOf(5), ProphecyShop.REFUNDED);
        Checks.due("27: of a refunded one", s.refundOf(5), 329);
        ProphecyShop t = Checks.loaded("shop 0 1 99 200 0;event a;place a;customer c 9999 1;");
        t.sellDenial(0, 0, 0, 0, 1, 999);
        t.sellVague(0, 0, 0, 1, 999);
        Checks.due("27: two hundred percent", t.refundOf(0), 1998);
        Checks.due("27: nothing for a vague one", t.refundOf(1), 0);
    }
}
