/** Shops that several tests begin with. */
final class Shops {
    /** Six events a to f, six places g to l, eight customers m to t, five owls. */
    static final String LARGEST = "shop 0 9 99 100 50;event a;event b;event c;event d;event e;event f;"
        + "place g;place h;place i;place j;place k;place l;customer m 9999 1;customer n 9999 2;customer o 9999 3;"
        + "customer p 9999 4;customer q 9999 5;customer r 9999 6;customer s 9999 7;customer t 9999 8;"
        + "owl 1;owl 2;owl 3;owl 4;owl 5;";
    /** One event and one place, nobody and no owl. */
    static final String SMALLEST = "shop 0 1 0 0 0;event a;place g;";
    /** One of each kind. */
    static final String SINGLE = "shop 0 9 99 100 50;event a;place g;customer m 9999 1;owl 1;";

    private Shops() {
    }

    static ProphecyShop largest() {
        return Checks.loaded(LARGEST);
    }

    static ProphecyShop smallest() {
        return Checks.loaded(SMALLEST);
    }

    static ProphecyShop single() {
        return Checks.loaded(SINGLE);
    }

    /** A new shop to which so many vague prophecies were sold, a coin each, which are open for so many days. */
    static ProphecyShop sold(int prophecies, int days) {
        ProphecyShop s = new ProphecyShop();
        for (int p = 0; p < prophecies; p++) {
            s.sellVague(1, p % 2, 0, days, 1);
        }
        return s;
    }

    /** A new shop on that day. */
    static ProphecyShop onDay(int day) {
        ProphecyShop s = new ProphecyShop();
        passTo(s, day);
        return s;
    }

    static void passTo(ProphecyShop s, int day) {
        for (int today = s.day(); today < day; today = s.day()) {
            s.advance(Math.min(day - today, 60));
        }
    }

    /** A new shop with so many happenings; on the present day there was none yet. */
    static ProphecyShop happened(int times) {
        ProphecyShop s = new ProphecyShop();
        for (int i = 0; i < times; i++) {
            s.happen(i % 2, i / 2 % 3);
            if (i % 6 == 5) {
                s.advance(1);
            }
        }
        s.advance(1);
        return s;
    }
}
