/** Promises 8 to 12 and 14 to 17: the shop. */
public final class ShopTest {
    public static void main(String[] args) {
        numbers();
        purse();
        timesHappened();
        hasHappened();
        liveliestPlace();
        Checks.end("ShopTest");
    }

    private static void numbers() {
        ProphecyShop s = new ProphecyShop();
        s.advance(3);
        Checks.due("8: day", s.day(), 3);
        s.advance(60);
        Checks.due("8: day", s.day(), 63);
        s.sellPlain(0, 0, 0, 0, 1, 25);
        Checks.due("9: a price is paid to the shop", s.cash(), 125);
        s.advance(1);
        s.ask(0);
        s.advance(1);
        Checks.due("9: a refund is paid from the cash", s.cash(), 100);
        s = Checks.loaded("shop 7 1 1 1 1;event a;event b;event c;event d;place a;place b;customer q 1 1;");
        Checks.due("10: events", s.eventCount(), 4);
        Checks.due("11: places", s.placeCount(), 2);
        Checks.due("12: customers", s.customerCount(), 1);
        Checks.due("9: cash", s.cash(), 7);
    }

    private static void purse() {
        ProphecyShop s = new ProphecyShop();
        s.sellPlain(0, 0, 0, 0, 1, 30);
        s.sellVague(1, 0, 0, 1, 100);
        s.sellDenial(2, 0, 0, 0, 1, 20);
        Checks.due("14: ada", s.purse(0), 50);
        Checks.due("14: ben", s.purse(1), 200);
        Checks.due("14: cai", s.purse(2), 0);
        s.advance(1);
        s.ask(1);
        s.advance(3);
        Checks.due("14: the refund is on the way", s.purse(1), 200);
        s.advance(1);
        Checks.due("14: the refund arrives after nine miles at speed three", s.purse(1), 250);
        Checks.due("14: ada gets nothing", s.purse(0), 50);
        Checks.missing("14: below", ProphecyShop::new, t -> t.purse(-1));
        Checks.missing("14: above", ProphecyShop::new, t -> t.purse(3));
        Checks.missing("14: far below", ProphecyShop::new, t -> t.purse(Integer.MIN_VALUE));
        Checks.missing("14: far above", ProphecyShop::new, t -> t.purse(Integer.MAX_VALUE));
        ProphecyShop nobody = Checks.loaded("shop 1 1 1 1 1;event a;place a;");
        Checks.missing("14: nobody", nobody, () -> nobody.purse(0));
    }

    private static void timesHappened() {
        ProphecyShop s = new ProphecyShop();
        s.happen(0, 1);
        s.happen(1, 1);
        s.happen(1, 0);
        s.advance(1);
        s.happen(0, 1);
        Checks.due("15: twice", s.timesHappened(0, 1), 2);
        Checks.due("15: once", s.timesHappened(1, 1), 1);
        Checks.due("15: event and place are not confused", s.timesHappened(1, 0), 1);
        Checks.due("15: never", s.timesHappened(0, 0), 0);
        Checks.due("15: never in the last place", s.timesHappened(1, 2), 0);
        int[] wrong = {Integer.MIN_VALUE, -1, 3, 6, 36, Integer.MAX_VALUE};
        for (int number : wrong) {
            Checks.missing("15: event " + number, ProphecyShop::new, t -> t.timesHappened(number, 0));
            Checks.missing("15: place " + number, ProphecyShop::new, t -> t.timesHappened(0, number));
            Checks.missing("16: event " + number, ProphecyShop::new, t -> t.hasHappened(number, 0, 0));
            Checks.missing("16: place " + number, ProphecyShop::new, t -> t.hasHappened(0, number, 0));
        }
        Checks.missing("15: no third event", ProphecyShop::new, t -> t.timesHappened(2, 0));
        Checks.missing("16: no third event", ProphecyShop::new, t -> t.hasHappened(2, 0, 0));
    }

    private static void hasHappened() {
        ProphecyShop s = new ProphecyShop();
        s.happen(0, 1);
        s.advance(5);
        s.happen(1, 0);
        Checks.due("16: on day 0", s.hasHappened(0, 1, 0), true);
        Checks.due("16: not today", s.hasHappened(0, 1, 5), false);
        Checks.due("16: today", s.hasHappened(1, 0, 5), true);
        Checks.due("16: event and place are not confused", s.hasHappened(0, 1, 5), false);
        Checks.due("16: another place", s.hasHappened(1, 1, 5), false);
        Checks.due("16: another event", s.hasHappened(0, 0, 5), false);
        int[] days = {Integer.MIN_VALUE, -1, 1, 4, 6, 9999, 10000, Integer.MAX_VALUE};
        for (int day : days) {
            Checks.due("16: day " + day, s.hasHappened(0, 1, day), false);
            Checks.due("16: day " + day, s.hasHappened(1, 0, day), false);
        }
    }

    private static void liveliestPlace() {
        ProphecyShop s = new ProphecyShop();
        Checks.due("17: nothing has happened", s.liveliestPlace(), 0);
        s.happen(0, 2);
        Checks.due("17: the only one", s.liveliestPlace(), 2);
        s.happen(0, 1);
        Checks.due("17: of several the lowest", s.liveliestPlace(), 1);
        s.happen(1, 2);
        Checks.due("17: all events count", s.liveliestPlace(), 2);
        s.advance(1);
        s.happen(1, 1);
        Checks.due("17: a tie again", s.liveliestPlace(), 1);
        s.happen(1, 0);
        Checks.due("17: fewer", s.liveliestPlace(), 1);
        ProphecyShop six = Checks.loaded("shop 1 1 1 1 1;event a;event b;event c;event d;event e;event f;"
            + "place a;place b;place c;place d;place e;place f;");
        six.happen(0, 0);
        six.happen(4, 5);
        six.happen(5, 5);
        Checks.due("17: the last place by the last events", six.liveliestPlace(), 5);
    }
}
