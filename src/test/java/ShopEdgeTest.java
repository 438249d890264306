import java.util.function.Supplier;

/** The edges of promises 8 to 12 and 14 to 17: the shop. */
public final class ShopEdgeTest {
    public static void main(String[] args) {
        firstAndLastDay();
        leastAndMostCash();
        fewestAndMostOfEachKind();
        purseNumbers();
        purses();
        eventAndPlaceNumbers();
        timesHappened();
        hasHappenedOnAnyDay();
        sixtyHappenings();
        liveliestOfNone();
        liveliestOfSeveral();
        liveliestOfSix();
        Checks.end("ShopEdgeTest");
    }

    private static void firstAndLastDay() {
        ProphecyShop s = new ProphecyShop();
        Checks.due("8: at first", s.day(), 0);
        s.advance(1);
        Checks.due("8: a day", s.day(), 1);
        s.advance(60);
        Checks.due("8: the most days at once", s.day(), 61);
        s.undo();
        Checks.due("8: undone", s.day(), 1);
        Shops.passTo(s, 9998);
        Checks.due("8: the last day but one", s.day(), 9998);
        s.advance(1);
        Checks.due("8: the last day", s.day(), 9999);
        Checks.badState("8: no day after it", s, () -> s.advance(1));
    }

    private static void leastAndMostCash() {
        ProphecyShop s = Shops.single();
        Checks.due("9: none", s.cash(), 0);
        s.sellDenial(0, 0, 0, 0, 1, 1);
        Checks.due("9: a coin", s.cash(), 1);
        s.happen(0, 0);
        s.ask(0);
        s.advance(1);
        Checks.due("9: the last coin is paid", s.cash(), 0);
        ProphecyShop rich = Checks.loaded(Shops.LARGEST.replace("shop 0", "shop 99999"));
        for (int p = 0; p < 24; p++) {
            rich.sellPlain(p / 3, 0, 0, 0, 1, 999);
        }
        Checks.due("9: the most that there can be", rich.cash(), 99999 + 24 * 999);
    }

    private static void fewestAndMostOfEachKind() {
        ProphecyShop few = Shops.smallest();
        Checks.due("10: fewest", few.eventCount(), 1);
        Checks.due("11: fewest", few.placeCount(), 1);
        Checks.due("12: fewest", few.customerCount(), 0);
        Checks.due("32: fewest", few.idleOwls(), 0);
        ProphecyShop many = Shops.largest();
        Checks.due("10: most", many.eventCount(), 6);
        Checks.due("11: most", many.placeCount(), 6);
        Checks.due("12: most", many.customerCount(), 8);
        Checks.due("32: most", many.idleOwls(), 5);
        // As many of each kind as of no other one.
        ProphecyShop s = Checks.loaded("shop 1 1 1 1 1;event a;event b;place a;place b;place c;place d;"
            + "customer a 1 1;owl 1;owl 1;owl 1;");
        Checks.due("10: two", s.eventCount(), 2);
        Checks.due("11: four", s.placeCount(), 4);
        Checks.due("12: one", s.customerCount(), 1);
        Checks.due("32: three", s.idleOwls(), 3);
        ProphecyShop first = new ProphecyShop();
        Checks.script(first, "sell ada vague rain 0 1 1; happen rain inn; pass 60;");
        Checks.due("10: it stays", first.eventCount(), 2);
        Checks.due("11: it stays", first.placeCount(), 3);
        Checks.due("12: it stays", first.customerCount(), 3);
    }

    private static void purseNumbers() {
        int[] wrong = {Integer.MIN_VALUE, -1, Integer.MAX_VALUE};
        for (int c : wrong) {
            Checks.missing("14: customer " + c, Shops::largest, s -> s.purse(c));
            Checks.missing("14: customer " + c, Shops::smallest, s -> s.purse(c));
        }
        Checks.missing("14: customer 0 of none", Shops::smallest, s -> s.purse(0));
        Checks.missing("14: customer 1 of one", Shops::single, s -> s.purse(1));
        Checks.missing("14: customer 3 of three", ProphecyShop::new, s -> s.purse(3));
        Checks.missing("14: customer 8 of eight", Shops::largest, s -> s.purse(8));
        Checks.due("14: customer 0 of one", Shops.single().purse(0), 9999);
        Checks.due("14: customer 2 of three", new ProphecyShop().purse(2), 20);
        Checks.due("14: customer 7 of eight", Shops.largest().purse(7), 9999);
    }

    /** Each of the eight customers pays and gets a refund. */
    private static void purses() {
        ProphecyShop s = Shops.largest();
        for (int c = 0; c < 8; c++) {
            s.sellDenial(c, 0, 0, 0, 1, 100 + c);
            Checks.due("14: paid by " + c, s.purse(c), 9999 - 100 - c);
        }
        s.happen(0, 0);
        for (int c = 7; c >= 0; c--) {
            s.ask(c);
        }
        s.advance(60);
        for (int c = 0; c < 8; c++) {
            Checks.due("14: paid back to " + c, s.purse(c), 9999);
        }
        Checks.due("9: nothing is left", s.cash(), 0);
        ProphecyShop poor = new ProphecyShop();
        poor.sellPlain(2, 0, 0, 0, 1, 19);
        Checks.due("14: a coin is left", poor.purse(2), 1);
        poor.sellPlain(2, 0, 0, 0, 1, 1);
        Checks.due("14: nothing is left", poor.purse(2), 0);
        ProphecyShop rich = Checks.loaded("shop 99999 1 1 200 200;event a;place a;customer a 9999 1;owl 1;");
        rich.sellDenial(0, 0, 0, 0, 1, 999);
        rich.happen(0, 0);
        rich.ask(0);
        rich.advance(2);
        Checks.due("14: more than at first", rich.purse(0), 9999 + 999);
    }

    private static void eventAndPlaceNumbers() {
        int[] far = {Integer.MIN_VALUE, -1, 6, Integer.MAX_VALUE};
        for (int n : far) {
            wrongEvent(Shops::largest, n);
            wrongPlace(Shops::largest, n);
            wrongEvent(Shops::smallest, n);
            wrongPlace(Shops::smallest, n);
        }
        wrongEvent(Shops::smallest, 1);
        wrongPlace(Shops::smallest, 1);
        wrongEvent(ProphecyShop::new, 2);
        wrongPlace(ProphecyShop::new, 3);
        Supplier<ProphecyShop> fewPlaces = () -> Checks.loaded("shop 1 1 1 1 1;event a;event b;event c;event d;place a;"
            + "customer a 1 1;customer b 1 1;");
        wrongEvent(fewPlaces, 4);
        wrongPlace(fewPlaces, 1);
        Checks.missing("15: both", ProphecyShop::new, s -> s.timesHappened(2, 3));
        Checks.missing("16: both", ProphecyShop::new, s -> s.hasHappened(-1, -1, -1));
        ProphecyShop s = Shops.largest();
        s.happen(5, 5);
        Checks.due("15: the last ones", s.timesHappened(5, 5), 1);
        Checks.due("16: the last ones", s.hasHappened(5, 5, 0), true);
    }

    private static void wrongEvent(Supplier<ProphecyShop> made, int event) {
        Checks.missing("15: event " + event, made, s -> s.timesHappened(event, 0));
        Checks.missing("16: event " + event, made, s -> s.hasHappened(event, 0, 0));
        Checks.missing("47: event " + event, made, s -> s.happen(event, 0));
    }

    private static void wrongPlace(Supplier<ProphecyShop> made, int place) {
        Checks.missing("15: place " + place, made, s -> s.timesHappened(0, place));
        Checks.missing("16: place " + place, made, s -> s.hasHappened(0, place, 0));
        Checks.missing("47: place " + place, made, s -> s.happen(0, place));
    }

    private static void timesHappened() {
        ProphecyShop s = Shops.largest();
        for (int event = 0; event < 6; event++) {
            for (int place = 0; place < 6; place++) {
                Checks.due("15: never", s.timesHappened(event, place), 0);
                s.happen(event, place);
                Checks.due("15: once", s.timesHappened(event, place), 1);
            }
        }
        s.advance(1);
        Checks.due("15: still once", s.timesHappened(0, 0), 1);
        s.happen(0, 5);
        Checks.due("15: twice", s.timesHappened(0, 5), 2);
        Checks.due("15: another event", s.timesHappened(5, 0), 1);
        s.undo();
        Checks.due("15: undone", s.timesHappened(0, 5), 1);
        ProphecyShop t = Shops.smallest();
        for (int i = 1; i <= 60; i++) {
            t.happen(0, 0);
            Checks.due("15: times", t.timesHappened(0, 0), i);
            t.advance(1);
        }
    }

    private static void hasHappenedOnAnyDay() {
        ProphecyShop s = new ProphecyShop();
        s.happen(0, 0);
        Shops.passTo(s, 5);
        s.happen(0, 0);
        Shops.passTo(s, 9999);
        s.happen(0, 0);
        int[] never = {Integer.MIN_VALUE, -9999, -1, 1, 4, 6, 9998, 10000, 65536, Integer.MAX_VALUE - 1,
            Integer.MAX_VALUE};
        for (int day : never) {
            Checks.due("16: not on day " + day, s.hasHappened(0, 0, day), false);
        }
        int[] days = {0, 5, 9999};
        for (int day : days) {
            Checks.due("16: on day " + day, s.hasHappened(0, 0, day), true);
            Checks.due("16: another event on day " + day, s.hasHappened(1, 0, day), false);
            Checks.due("16: another place on day " + day, s.hasHappened(0, 1, day), false);
        }
        Checks.due("16: nothing at all", new ProphecyShop().hasHappened(0, 0, 0), false);
        ProphecyShop undone = new ProphecyShop();
        undone.happen(0, 0);
        undone.undo();
        Checks.due("16: undone", undone.hasHappened(0, 0, 0), false);
    }

    /** At most 60 happenings, of all events in all places together, are noted. */
    private static void sixtyHappenings() {
        int[] counts = {58, 59, 60};
        for (int count : counts) {
            ProphecyShop s = Shops.happened(count);
            int sum = 0;
            for (int event = 0; event < 2; event++) {
                for (int place = 0; place < 3; place++) {
                    sum += s.timesHappened(event, place);
                }
            }
            Checks.due("15: of all together", sum, count);
            Checks.due("16: the first", s.hasHappened(0, 0, 0), true);
            int last = count - 1;
            Checks.due("16: the last", s.hasHappened(last % 2, last / 2 % 3, last / 6), true);
        }
    }

    private static void liveliestOfNone() {
        Checks.due("17: nothing has happened", new ProphecyShop().liveliestPlace(), 0);
        Checks.due("17: nothing has happened", Shops.largest().liveliestPlace(), 0);
        Checks.due("17: the only place", Shops.smallest().liveliestPlace(), 0);
        ProphecyShop s = Shops.smallest();
        s.happen(0, 0);
        Checks.due("17: the only place", s.liveliestPlace(), 0);
    }

    /** Of several such places the one with the lowest number. */
    private static void liveliestOfSeveral() {
        int[][] happenings = {{1, 0, 0}, {0, 1, 0}, {0, 0, 1}, {1, 1, 0}, {0, 1, 1}, {1, 0, 1}, {1, 1, 1}, {2, 1, 0},
            {1, 2, 0}, {2, 1, 1}, {1, 2, 1}, {1, 1, 2}, {2, 2, 1}, {1, 2, 2}, {2, 1, 2}, {2, 2, 2}, {0, 2, 1},
            {0, 1, 2}};
        int[] want = {0, 1, 2, 0, 1, 0, 0, 0, 1, 0, 1, 2, 0, 1, 0, 0, 1, 2};
        for (int i = 0; i < want.length; i++) {
            ProphecyShop byEvents = new ProphecyShop();
            ProphecyShop byDays = new ProphecyShop();
            for (int place = 2; place >= 0; place--) {
                for (int n = 0; n < happenings[i][place]; n++) {
                    byEvents.happen(n, place);
                    byDays.happen(1, place);
                    byDays.advance(1);
                }
            }
            Checks.due("17: case " + i + ", of several events", byEvents.liveliestPlace(), want[i]);
            Checks.due("17: case " + i + ", of several days", byDays.liveliestPlace(), want[i]);
        }
    }

    private static void liveliestOfSix() {
        for (int place = 0; place < 6; place++) {
            ProphecyShop s = Shops.largest();
            for (int event = 0; event < 6; event++) {
                s.happen(event, place);
                s.happen(event, 5 - place);
            }
            Checks.due("17: a tie of six events", s.liveliestPlace(), Math.min(place, 5 - place));
            s.advance(1);
            s.happen(5, place);
            Checks.due("17: one more of the last event", s.liveliestPlace(), place);
            s.undo();
            s.happen(0, 5 - place);
            Checks.due("17: one more of the first event", s.liveliestPlace(), 5 - place);
        }
    }
}
