import java.util.NoSuchElementException;

/** A simulator of the returns counter of a prophecy shop. */
public final class ProphecyShop {
    public static final int NONE = -1;
    public static final int SYNTAX = 1;
    public static final int OUT_OF_RANGE = 2;
    public static final int WRONG_NAME = 3;
    public static final int TOO_MANY = 4;
    public static final int OPEN = 0;
    public static final int FULFILLED = 1;
    public static final int FAILED = 2;
    public static final int REFUNDED = 3;
    public static final int NO_ANSWER = 0;
    public static final int PAID = 1;
    public static final int STILL_OPEN = 2;
    public static final int IS_FULFILLED = 3;
    public static final int ALREADY_PAID = 4;
    public static final int TOO_LATE = 5;
    public static final int NO_CASH = 6;

    private static final String FIRST_SETUP = "shop 100 2 5 100 50; event rain; event war; place inn; place mill; place pass; customer ada 80 4; customer ben 300 9; customer cai 20 15; owl 3; owl 5;";

    private static final int TEXT_LIMIT = 800;
    private static final int NAME_LIMIT = 6;
    private static final int KIND_LIMIT = 6;
    private static final int CUSTOMER_LIMIT = 8;
    private static final int OWL_LIMIT = 5;
    private static final int PROPHECY_LIMIT = 24;
    private static final int HAPPENING_LIMIT = 60;
    private static final int LAST_DAY = 9999;
    private static final int DELAY_LIMIT = 99;
    private static final int LENGTH_LIMIT = 60;
    private static final int PRICE_LIMIT = 999;
    private static final int ADVANCE_LIMIT = 60;
    private static final int REPEAT_LIMIT = 20;
    private static final int FORECAST_LIMIT = 300;
    private static final int UNDO_LIMIT = 8;
    private static final int SLOT_COUNT = 2;
    private static final int COMMAND_LIMIT = 30;
    private static final int BRACKET_LIMIT = 2;
    private static final int EXECUTION_LIMIT = 40;

    // The kinds of prophecies.
    private static final int PLAIN = 0;
    private static final int VAGUE = 1;
    private static final int DENIAL = 2;

    // What forbids a change, in the order in which the exceptions are listed.
    private static final int FINE = 0;
    private static final int NO_SUCH_NUMBER = 1;
    private static final int BAD_ARGUMENT = 2;
    private static final int BAD_STATE = 3;

    private final Text text = new Text();
    private final SetupReader setupReader = new SetupReader(text);
    private final Script script = new Script(text);
    private Setup setup = new Setup();
    private Setup draft = new Setup();
    private final Shop shop = new Shop(setup);
    private final Shop forecast = new Shop(setup);
    private final History history = new History(setup);
    private final Shop[] slots = new Shop[SLOT_COUNT];
    private final boolean[] slotFilled = new boolean[SLOT_COUNT];
    private int latestError = 0;
    private int latestErrorPosition = NONE;
    private String output = "";

    public ProphecyShop() {
        for (int slot = 0; slot < SLOT_COUNT; slot++) {
            slots[slot] = new Shop(setup);
        }
        for (int i = 0; i < FIRST_SETUP.length(); i++) {
            text.put(FIRST_SETUP.charAt(i));
        }
        openShop();
    }

    // ---- texts

    public int append(int a, int b, int c, int d, int e) throws IllegalStateException {
        int added = Text.bytesIn(a) + Text.bytesIn(b) + Text.bytesIn(c) + Text.bytesIn(d) + Text.bytesIn(e);
        if (text.size() + added > TEXT_LIMIT) {
            throw new IllegalStateException("the text would be too long");
        }
        text.putBytesOf(a);
        text.putBytesOf(b);
        text.putBytesOf(c);
        text.putBytesOf(d);
        text.putBytesOf(e);
        return text.size();
    }

    public int truncate(int length) throws IllegalArgumentException {
        if (!isWithin(length, 0, text.size())) {
            throw new IllegalArgumentException("the length is out of range");
        }
        int removed = text.size() - length;
        text.shortenTo(length);
        return removed;
    }

    public int load() {
        int error = openShop();
        latestError = error;
        latestErrorPosition = setupReader.errorPosition;
        return error;
    }

    public int runScript() {
        int error = script.readFor(setup);
        latestError = error;
        latestErrorPosition = script.errorPosition;
        text.shortenTo(0);
        if (error != 0) {
            return NONE;
        }
        history.record(shop);
        return script.execute(shop);
    }

    public int errorCode() {
        return latestError;
    }

    public int errorPosition() {
        return latestErrorPosition;
    }

    // ---- the shop

    public int day() {
        return shop.day;
    }

    public int cash() {
        return shop.cash;
    }

    public int eventCount() {
        return setup.events.count;
    }

    public int placeCount() {
        return setup.places.count;
    }

    public int customerCount() {
        return setup.customers.count;
    }

    public int findCustomer() {
        return setup.customers.find(Names.codeOf(text, 0, text.size()));
    }

    public int purse(int customer) throws IndexOutOfBoundsException {
        throwIfMissing(setup.customers.has(customer));
        return shop.coinsOf(customer);
    }

    public int timesHappened(int event, int place) throws IndexOutOfBoundsException {
        throwIfMissing(setup.events.has(event) && setup.places.has(place));
        return shop.countHappenings(event, place);
    }

    public boolean hasHappened(int event, int place, int day) throws IndexOutOfBoundsException {
        throwIfMissing(setup.events.has(event) && setup.places.has(place));
        return shop.isNoted(event, place, day);
    }

    public int liveliestPlace() {
        int liveliest = 0;
        int most = shop.countHappeningsIn(0);
        for (int place = 1; place < setup.places.count; place++) {
            int times = shop.countHappeningsIn(place);
            if (times > most) {
                most = times;
                liveliest = place;
            }
        }
        return liveliest;
    }

    // ---- prophecies

    public int prophecyCount() {
        return shop.soldCount;
    }

    public int customerOf(int prophecy) throws IndexOutOfBoundsException {
        return prophecyWith(prophecy).customer;
    }

    public int eventOf(int prophecy) throws IndexOutOfBoundsException {
        return prophecyWith(prophecy).event;
    }

    public int placeOf(int prophecy) throws IndexOutOfBoundsException {
        return prophecyWith(prophecy).place;
    }

    public boolean isDenial(int prophecy) throws IndexOutOfBoundsException {
        return prophecyWith(prophecy).kind == DENIAL;
    }

    public int firstDay(int prophecy) throws IndexOutOfBoundsException {
        return prophecyWith(prophecy).first;
    }

    public int lastDay(int prophecy) throws IndexOutOfBoundsException {
        return prophecyWith(prophecy).last;
    }

    public int stateOf(int prophecy) throws IndexOutOfBoundsException {
        return prophecyWith(prophecy).state;
    }

    public int decidedOn(int prophecy) throws IndexOutOfBoundsException, NoSuchElementException {
        Prophecy asked = prophecyWith(prophecy);
        if (asked.state == OPEN) {
            throw new NoSuchElementException("the prophecy is open");
        }
        return asked.decided;
    }

    public int refundOf(int prophecy) throws IndexOutOfBoundsException {
        return shop.refundFor(prophecyWith(prophecy));
    }

    // ---- counter and owls

    public int queueLength() {
        return shop.waiting;
    }

    public int placeInQueue(int prophecy) throws IndexOutOfBoundsException {
        throwIfMissing(shop.hasSold(prophecy));
        return shop.requestsBefore(prophecy);
    }

    public int answerFor(int prophecy) throws IndexOutOfBoundsException {
        return prophecyWith(prophecy).answer;
    }

    public int expectedAnswer(int prophecy) throws IndexOutOfBoundsException {
        return shop.answerTo(prophecyWith(prophecy));
    }

    public int idleOwls() {
        int idle = 0;
        for (int owl = 0; owl < setup.owlCount; owl++) {
            if (shop.owlWith(owl).days == 0) {
                idle++;
            }
        }
        return idle;
    }

    public int owlDays(int owl) throws IndexOutOfBoundsException {
        throwIfMissing(owl >= 0 && owl < setup.owlCount);
        return shop.owlWith(owl).days;
    }

    public int owlCoins(int owl) throws IndexOutOfBoundsException {
        throwIfMissing(owl >= 0 && owl < setup.owlCount);
        return shop.owlWith(owl).coins;
    }

    // ---- statistics

    public int countIn(int state) throws IllegalArgumentException {
        if (state != OPEN && state != FULFILLED && state != FAILED && state != REFUNDED) {
            throw new IllegalArgumentException("no such state");
        }
        return shop.countWithState(state);
    }

    public int handledRequests() {
        return shop.handled;
    }

    public int refundTotal() {
        return shop.paidOut;
    }

    public float truthShare() {
        int decided = shop.soldCount - shop.countWithState(OPEN);
        return decided == 0 ? 0.0f : (float) shop.countWithState(FULFILLED) / (float) decided;
    }

    public double meanPrice() {
        int count = shop.soldCount;
        return count == 0 ? 0.0 : (double) shop.sumOfPrices() / (double) count;
    }

    public int contradictions() {
        return Math.abs(setup.sumOfCoins() - shop.sumOfCoins())
            + Math.abs(shop.paidOut - shop.sumOfRefunds())
            + shop.countOverdue();
    }

    // ---- forecasts

    public int daysUntilDecided(int prophecy) throws IndexOutOfBoundsException {
        Prophecy asked = prophecyWith(prophecy);
        return asked.state == OPEN ? asked.last + 1 - shop.day : 0;
    }

    public int daysUntilRefunded(int prophecy) throws IndexOutOfBoundsException {
        throwIfMissing(shop.hasSold(prophecy));
        forecast.copyFrom(shop);
        Prophecy watched = forecast.prophecyWith(prophecy);
        for (int days = 0; days <= FORECAST_LIMIT; days++) {
            if (watched.state == REFUNDED) {
                return days;
            }
            forecast.passDays(1);
        }
        return NONE;
    }

    public int cashAfter(int days) throws IllegalArgumentException {
        if (!isWithin(days, 0, FORECAST_LIMIT)) {
            throw new IllegalArgumentException("the days are out of range");
        }
        forecast.copyFrom(shop);
        forecast.passDays(days);
        return forecast.cash;
    }

    // ---- changes

    public int sellPlain(int customer, int event, int place, int delay, int length, int price)
            throws IndexOutOfBoundsException, IllegalArgumentException, IllegalStateException {
        return sellAny(customer, PLAIN, event, place, delay, length, price);
    }

    public int sellVague(int customer, int event, int delay, int length, int price)
            throws IndexOutOfBoundsException, IllegalArgumentException, IllegalStateException {
        return sellAny(customer, VAGUE, event, NONE, delay, length, price);
    }

    public int sellDenial(int customer, int event, int place, int delay, int length, int price)
            throws IndexOutOfBoundsException, IllegalArgumentException, IllegalStateException {
        return sellAny(customer, DENIAL, event, place, delay, length, price);
    }

    public int happen(int event, int place) throws IndexOutOfBoundsException, IllegalStateException {
        throwFor(shop.faultOfHappening(event, place));
        history.record(shop);
        return shop.noteHappening(event, place);
    }

    public int ask(int prophecy) throws IndexOutOfBoundsException, IllegalStateException {
        throwFor(shop.faultOfRequest(prophecy));
        history.record(shop);
        return shop.addRequest(prophecy);
    }

    public int advance(int days) throws IllegalArgumentException, IllegalStateException {
        throwFor(shop.faultOfDays(days));
        history.record(shop);
        return shop.passDays(days);
    }

    // ---- output, undo and slots

    public int writeProphecy(int prophecy) throws IndexOutOfBoundsException {
        Prophecy written = prophecyWith(prophecy);
        StringBuilder line = new StringBuilder();
        setup.customers.writeTo(line, written.customer);
        line.append(':');
        if (written.kind == DENIAL) {
            line.append('!');
        }
        setup.events.writeTo(line, written.event);
        line.append('@');
        if (written.kind == VAGUE) {
            line.append('*');
        } else {
            setup.places.writeTo(line, written.place);
        }
        line.append(' ').append(written.first).append('-').append(written.last);
        output = line.toString();
        return output.length();
    }

    public int writeQueue() {
        StringBuilder line = new StringBuilder();
        for (int place = 0; place < shop.waiting; place++) {
            if (place > 0) {
                line.append(',');
            }
            line.append(shop.requestAt(place));
        }
        output = line.toString();
        return output.length();
    }

    public int outputByte(int index) {
        return index >= 0 && index < output.length() ? output.charAt(index) : NONE;
    }

    public int undoCount() {
        return history.count;
    }

    public int undo() throws IllegalStateException {
        if (history.count == 0) {
            throw new IllegalStateException("no change can be undone");
        }
        history.takeBack(shop);
        return history.count;
    }

    public int save(int slot) throws IndexOutOfBoundsException {
        throwIfMissing(slot >= 0 && slot < SLOT_COUNT);
        slots[slot].copyFrom(shop);
        slotFilled[slot] = true;
        return shop.day;
    }

    public int restore(int slot) throws IndexOutOfBoundsException, NoSuchElementException {
        throwIfMissing(slot >= 0 && slot < SLOT_COUNT);
        if (!slotFilled[slot]) {
            throw new NoSuchElementException("the slot is empty");
        }
        shop.copyFrom(slots[slot]);
        history.count = 0;
        return shop.day;
    }

    // ---- helpers of the face

    /** Reads the text as a setup and opens its shop; answers the error code. */
    private int openShop() {
        int error = setupReader.readInto(draft);
        text.shortenTo(0);
        if (error == 0) {
            Setup old = setup;
            setup = draft;
            draft = old;
            shop.openWith(setup);
            history.count = 0;
            for (int slot = 0; slot < SLOT_COUNT; slot++) {
                slotFilled[slot] = false;
            }
        }
        return error;
    }

    private int sellAny(int customer, int kind, int event, int place, int delay, int length, int price) {
        throwFor(shop.faultOfSale(customer, kind, event, place, delay, length, price));
        history.record(shop);
        return shop.addProphecy(customer, kind, event, place, delay, length, price);
    }

    private Prophecy prophecyWith(int number) {
        throwIfMissing(shop.hasSold(number));
        return shop.prophecyWith(number);
    }

    private static void throwIfMissing(boolean exists) {
        if (!exists) {
            throw new IndexOutOfBoundsException("no such number");
        }
    }

    private static void throwFor(int fault) {
        if (fault == NO_SUCH_NUMBER) {
            throw new IndexOutOfBoundsException("no such number");
        }
        if (fault == BAD_ARGUMENT) {
            throw new IllegalArgumentException("a value is out of range");
        }
        if (fault == BAD_STATE) {
            throw new IllegalStateException("not possible now");
        }
    }

    private static boolean isWithin(int value, int least, int most) {
        return value >= least && value <= most;
    }

    /** The text buffer. */
    private static final class Text {
        private final int[] bytes = new int[TEXT_LIMIT];
        private int length = 0;

        int size() {
            return length;
        }

        /** The byte with this index, NONE where the text has none. */
        int at(int index) {
            return index >= 0 && index < length ? bytes[index] : NONE;
        }

        void put(int value) {
            if (length < TEXT_LIMIT) {
                bytes[length] = value;
                length++;
            }
        }

        void shortenTo(int newLength) {
            length = newLength;
        }

        static int bytesIn(int four) {
            int count = 0;
            for (int shift = 24; shift >= 0; shift -= 8) {
                if ((four >>> shift & 255) != 0) {
                    count++;
                }
            }
            return count;
        }

        void putBytesOf(int four) {
            for (int shift = 24; shift >= 0; shift -= 8) {
                int value = four >>> shift & 255;
                if (value != 0) {
                    put(value);
                }
            }
        }
    }

    /** Names of one kind. A name is kept as a number, five bits a letter, so that no text need be made. */
    private static final class Names {
        private final int[] codes = new int[CUSTOMER_LIMIT];
        int count = 0;

        /** The number of the name that the text has between two indices, 0 if that is no name. */
        static int codeOf(Text text, int from, int to) {
            if (to - from < 1 || to - from > NAME_LIMIT) {
                return 0;
            }
            int code = 0;
            for (int i = from; i < to; i++) {
                int letter = text.at(i);
                if (letter < 'a' || letter > 'z') {
                    return 0;
                }
                code = code << 5 | letter - 'a' + 1;
            }
            return code;
        }

        boolean has(int number) {
            return number >= 0 && number < count;
        }

        int find(int code) {
            for (int number = 0; number < count; number++) {
                if (codes[number] == code) {
                    return number;
                }
            }
            return NONE;
        }

        void add(int code) {
            if (count < CUSTOMER_LIMIT) {
                codes[count] = code;
                count++;
            }
        }

        void writeTo(StringBuilder line, int number) {
            if (!has(number)) {
                return;
            }
            for (int shift = 5 * (NAME_LIMIT - 1); shift >= 0; shift -= 5) {
                int letter = codes[number] >> shift & 31;
                if (letter != 0) {
                    line.append((char) ('a' + letter - 1));
                }
            }
        }
    }

    /** What a setup tells; it stays the same as long as its shop is open. */
    private static final class Setup {
        int cash = 0;
        int rate = 0;
        int grace = 0;
        int percentage = 0;
        int vaguePercentage = 0;
        final Names events = new Names();
        final Names places = new Names();
        final Names customers = new Names();
        private final int[] purses = new int[CUSTOMER_LIMIT];
        private final int[] distances = new int[CUSTOMER_LIMIT];
        private final int[] speeds = new int[OWL_LIMIT];
        int owlCount = 0;

        void clear() {
            events.count = 0;
            places.count = 0;
            customers.count = 0;
            owlCount = 0;
        }

        void addCustomer(int name, int purse, int distance) {
            int number = customers.count;
            if (number < CUSTOMER_LIMIT) {
                purses[number] = purse;
                distances[number] = distance;
                customers.add(name);
            }
        }

        void addOwl(int speed) {
            if (owlCount < OWL_LIMIT) {
                speeds[owlCount] = speed;
                owlCount++;
            }
        }

        int firstCoinsOf(int customer) {
            return customers.has(customer) ? purses[customer] : 0;
        }

        int sumOfCoins() {
            int sum = cash;
            for (int customer = 0; customer < customers.count; customer++) {
                sum += firstCoinsOf(customer);
            }
            return sum;
        }

        int flightDays(int owl, int customer) {
            int speed = owl >= 0 && owl < owlCount ? speeds[owl] : 0;
            if (speed < 1 || !customers.has(customer)) {
                return 0;
            }
            return (distances[customer] + speed - 1) / speed;
        }
    }

    /** A prophecy that was sold. */
    private static final class Prophecy {
        int customer = 0;
        int kind = PLAIN;
        int event = 0;
        int place = NONE;
        int first = 0;
        int last = 0;
        int price = 0;
        int state = OPEN;
        int decided = 0;
        int answer = NO_ANSWER;

        void copyFrom(Prophecy other) {
            customer = other.customer;
            kind = other.kind;
            event = other.event;
            place = other.place;
            first = other.first;
            last = other.last;
            price = other.price;
            state = other.state;
            decided = other.decided;
            answer = other.answer;
        }

        boolean isAbout(int someEvent, int somePlace) {
            return event == someEvent && (kind == VAGUE || place == somePlace);
        }

        boolean isOverdue(int day) {
            return state == OPEN && last < day;
        }

        /** A denial is true just when its event did not happen. */
        void decide(boolean happened, int day) {
            state = happened == (kind != DENIAL) ? FULFILLED : FAILED;
            decided = day;
        }
    }

    /** An owl; it is idle when no days of a flight remain. */
    private static final class Owl {
        int days = 0;
        int coins = 0;
        private int customer = 0;
        private int flight = 0;
        private boolean outward = false;

        void copyFrom(Owl other) {
            days = other.days;
            coins = other.coins;
            customer = other.customer;
            flight = other.flight;
            outward = other.outward;
        }

        void rest() {
            days = 0;
            coins = 0;
            outward = false;
        }

        void leaveFor(int newCustomer, int refund, int flightDays) {
            customer = newCustomer;
            coins = refund;
            flight = flightDays;
            days = flightDays;
            outward = true;
        }

        /** One day passes; answers the customer whom the owl reaches, NONE if it reaches none. */
        int fly() {
            if (days == 0) {
                return NONE;
            }
            days--;
            if (days > 0 || !outward) {
                return NONE;
            }
            outward = false;
            days = flight;
            return customer;
        }

        int handOver() {
            int handed = coins;
            coins = 0;
            return handed;
        }
    }

    /** Everything that changes while days pass: what undo and restore bring back. */
    private static final class Shop {
        private Setup setup;
        int day = 0;
        int cash = 0;
        private final int[] purses = new int[CUSTOMER_LIMIT];
        private final Prophecy[] sold = new Prophecy[PROPHECY_LIMIT];
        int soldCount = 0;
        private final Owl[] owls = new Owl[OWL_LIMIT];
        private final int[] queue = new int[PROPHECY_LIMIT];
        int waiting = 0;
        private final int[] notedEvents = new int[HAPPENING_LIMIT];
        private final int[] notedPlaces = new int[HAPPENING_LIMIT];
        private final int[] notedDays = new int[HAPPENING_LIMIT];
        private int notedCount = 0;
        int handled = 0;
        int paidOut = 0;

        Shop(Setup setup) {
            this.setup = setup;
            for (int i = 0; i < PROPHECY_LIMIT; i++) {
                sold[i] = new Prophecy();
            }
            for (int i = 0; i < OWL_LIMIT; i++) {
                owls[i] = new Owl();
            }
        }

        void openWith(Setup newSetup) {
            setup = newSetup;
            day = 0;
            cash = newSetup.cash;
            for (int customer = 0; customer < CUSTOMER_LIMIT; customer++) {
                purses[customer] = newSetup.firstCoinsOf(customer);
            }
            for (int owl = 0; owl < OWL_LIMIT; owl++) {
                owls[owl].rest();
            }
            soldCount = 0;
            waiting = 0;
            notedCount = 0;
            handled = 0;
            paidOut = 0;
        }

        void copyFrom(Shop other) {
            setup = other.setup;
            day = other.day;
            cash = other.cash;
            soldCount = other.soldCount;
            waiting = other.waiting;
            notedCount = other.notedCount;
            handled = other.handled;
            paidOut = other.paidOut;
            System.arraycopy(other.purses, 0, purses, 0, CUSTOMER_LIMIT);
            System.arraycopy(other.queue, 0, queue, 0, PROPHECY_LIMIT);
            System.arraycopy(other.notedEvents, 0, notedEvents, 0, HAPPENING_LIMIT);
            System.arraycopy(other.notedPlaces, 0, notedPlaces, 0, HAPPENING_LIMIT);
            System.arraycopy(other.notedDays, 0, notedDays, 0, HAPPENING_LIMIT);
            for (int i = 0; i < PROPHECY_LIMIT; i++) {
                sold[i].copyFrom(other.sold[i]);
            }
            for (int i = 0; i < OWL_LIMIT; i++) {
                owls[i].copyFrom(other.owls[i]);
            }
        }

        // -- selling

        boolean hasSold(int prophecy) {
            return prophecy >= 0 && prophecy < soldCount && prophecy < PROPHECY_LIMIT;
        }

        /** The prophecy with this number; asked for a number that is not sold it answers the first one's row. */
        Prophecy prophecyWith(int number) {
            return sold[hasSold(number) ? number : 0];
        }

        int coinsOf(int customer) {
            return customer >= 0 && customer < CUSTOMER_LIMIT ? purses[customer] : 0;
        }

        private void addCoins(int customer, int coins) {
            if (customer >= 0 && customer < CUSTOMER_LIMIT) {
                purses[customer] += coins;
            }
        }

        int faultOfSale(int customer, int kind, int event, int place, int delay, int length, int price) {
            boolean placeFits = kind == VAGUE || setup.places.has(place);
            if (!setup.customers.has(customer) || !setup.events.has(event) || !placeFits) {
                return NO_SUCH_NUMBER;
            }
            if (!isWithin(delay, 0, DELAY_LIMIT) || !isWithin(length, 1, LENGTH_LIMIT)
                    || !isWithin(price, 1, PRICE_LIMIT)) {
                return BAD_ARGUMENT;
            }
            return soldCount >= PROPHECY_LIMIT || coinsOf(customer) < price ? BAD_STATE : FINE;
        }

        int addProphecy(int customer, int kind, int event, int place, int delay, int length, int price) {
            if (soldCount >= PROPHECY_LIMIT) {
                return NONE;
            }
            Prophecy added = sold[soldCount];
            added.customer = customer;
            added.kind = kind;
            added.event = event;
            added.place = place;
            added.first = day + delay;
            added.last = added.first + length - 1;
            added.price = price;
            added.state = OPEN;
            added.answer = NO_ANSWER;
            addCoins(customer, -price);
            cash += price;
            soldCount++;
            return soldCount - 1;
        }

        // -- happenings

        boolean isNoted(int event, int place, int someDay) {
            for (int i = 0; i < notedCount; i++) {
                if (notedEvents[i] == event && notedPlaces[i] == place && notedDays[i] == someDay) {
                    return true;
                }
            }
            return false;
        }

        int countHappenings(int event, int place) {
            int count = 0;
            for (int i = 0; i < notedCount; i++) {
                if (notedEvents[i] == event && notedPlaces[i] == place) {
                    count++;
                }
            }
            return count;
        }

        int countHappeningsIn(int place) {
            int count = 0;
            for (int event = 0; event < KIND_LIMIT; event++) {
                count += countHappenings(event, place);
            }
            return count;
        }

        int faultOfHappening(int event, int place) {
            if (!setup.events.has(event) || !setup.places.has(place)) {
                return NO_SUCH_NUMBER;
            }
            return notedCount >= HAPPENING_LIMIT || isNoted(event, place, day) ? BAD_STATE : FINE;
        }

        /** Answers how many prophecies the happening decides. */
        int noteHappening(int event, int place) {
            if (notedCount < HAPPENING_LIMIT) {
                notedEvents[notedCount] = event;
                notedPlaces[notedCount] = place;
                notedDays[notedCount] = day;
                notedCount++;
            }
            int decided = 0;
            for (int i = 0; i < soldCount; i++) {
                if (sold[i].state == OPEN && sold[i].first <= day && sold[i].isAbout(event, place)) {
                    sold[i].decide(true, day);
                    decided++;
                }
            }
            return decided;
        }

        // -- the counter

        int refundFor(Prophecy prophecy) {
            int percentage = prophecy.kind == VAGUE ? setup.vaguePercentage : setup.percentage;
            return prophecy.price * percentage / 100;
        }

        /** The answer of the counter, whether an owl is idle or not. */
        int answerTo(Prophecy prophecy) {
            if (prophecy.state == OPEN) {
                return STILL_OPEN;
            }
            if (prophecy.state == FULFILLED) {
                return IS_FULFILLED;
            }
            if (prophecy.state == REFUNDED) {
                return ALREADY_PAID;
            }
            if (day - prophecy.decided > setup.grace) {
                return TOO_LATE;
            }
            return cash < refundFor(prophecy) ? NO_CASH : PAID;
        }

        int requestAt(int place) {
            return place >= 0 && place < waiting && place < PROPHECY_LIMIT ? queue[place] : NONE;
        }

        int requestsBefore(int prophecy) {
            for (int place = 0; place < waiting; place++) {
                if (queue[place] == prophecy) {
                    return place;
                }
            }
            return NONE;
        }

        int faultOfRequest(int prophecy) {
            if (!hasSold(prophecy)) {
                return NO_SUCH_NUMBER;
            }
            return requestsBefore(prophecy) != NONE ? BAD_STATE : FINE;
        }

        int addRequest(int prophecy) {
            if (waiting < PROPHECY_LIMIT) {
                queue[waiting] = prophecy;
                waiting++;
            }
            return waiting;
        }

        private void removeFirstRequest() {
            for (int place = 1; place < waiting; place++) {
                queue[place - 1] = queue[place];
            }
            waiting--;
        }

        /** Answers false if the counter must stop for this day. */
        private boolean handleFirstRequest() {
            int number = requestAt(0);
            if (!hasSold(number)) {
                return false;
            }
            Prophecy prophecy = prophecyWith(number);
            int answer = answerTo(prophecy);
            if (answer == PAID) {
                int owl = firstIdleOwl();
                if (owl == NONE) {
                    return false;
                }
                pay(prophecy, owl);
            }
            prophecy.answer = answer;
            removeFirstRequest();
            return true;
        }

        private void pay(Prophecy prophecy, int owl) {
            int refund = refundFor(prophecy);
            cash -= refund;
            paidOut += refund;
            prophecy.state = REFUNDED;
            owlWith(owl).leaveFor(prophecy.customer, refund, setup.flightDays(owl, prophecy.customer));
        }

        // -- owls

        Owl owlWith(int number) {
            return owls[number >= 0 && number < OWL_LIMIT ? number : 0];
        }

        private int firstIdleOwl() {
            for (int owl = 0; owl < setup.owlCount; owl++) {
                if (owlWith(owl).days == 0) {
                    return owl;
                }
            }
            return NONE;
        }

        private void moveOwls() {
            for (int owl = 0; owl < OWL_LIMIT; owl++) {
                int reached = owls[owl].fly();
                if (reached != NONE) {
                    addCoins(reached, owls[owl].handOver());
                }
            }
        }

        // -- days

        int faultOfDays(int days) {
            if (!isWithin(days, 1, ADVANCE_LIMIT)) {
                return BAD_ARGUMENT;
            }
            return day + days > LAST_DAY ? BAD_STATE : FINE;
        }

        /** Answers how many requests are handled in these days. */
        int passDays(int days) {
            int handledBefore = handled;
            for (int passed = 0; passed < days; passed++) {
                day++;
                decideOverdue();
                moveOwls();
                for (int n = 0; n < setup.rate && handleFirstRequest(); n++) {
                    handled++;
                }
            }
            return handled - handledBefore;
        }

        private void decideOverdue() {
            for (int i = 0; i < soldCount; i++) {
                if (sold[i].isOverdue(day)) {
                    sold[i].decide(false, day);
                }
            }
        }

        // -- statistics

        int countWithState(int state) {
            int count = 0;
            for (int i = 0; i < soldCount; i++) {
                if (sold[i].state == state) {
                    count++;
                }
            }
            return count;
        }

        int countOverdue() {
            int count = 0;
            for (int i = 0; i < soldCount; i++) {
                if (sold[i].isOverdue(day)) {
                    count++;
                }
            }
            return count;
        }

        int sumOfPrices() {
            int sum = 0;
            for (int i = 0; i < soldCount; i++) {
                sum += sold[i].price;
            }
            return sum;
        }

        int sumOfRefunds() {
            int sum = 0;
            for (int i = 0; i < soldCount; i++) {
                if (sold[i].state == REFUNDED) {
                    sum += refundFor(sold[i]);
                }
            }
            return sum;
        }

        int sumOfCoins() {
            int sum = cash;
            for (int customer = 0; customer < CUSTOMER_LIMIT; customer++) {
                sum += purses[customer];
            }
            for (int owl = 0; owl < OWL_LIMIT; owl++) {
                sum += owls[owl].coins;
            }
            return sum;
        }
    }

    /** The latest changes: the shop as it was before each of them, the oldest first. */
    private static final class History {
        private final Shop[] before = new Shop[UNDO_LIMIT];
        int count = 0;

        History(Setup setup) {
            for (int i = 0; i < UNDO_LIMIT; i++) {
                before[i] = new Shop(setup);
            }
        }

        void record(Shop shop) {
            if (count >= UNDO_LIMIT) {
                forgetOldest();
            }
            before[count].copyFrom(shop);
            count++;
        }

        private void forgetOldest() {
            Shop oldest = before[0];
            for (int i = 1; i < UNDO_LIMIT; i++) {
                before[i - 1] = before[i];
            }
            before[UNDO_LIMIT - 1] = oldest;
            count = UNDO_LIMIT - 1;
        }

        void takeBack(Shop shop) {
            if (count > 0) {
                count--;
                shop.copyFrom(before[count]);
            }
        }
    }

    /** Takes the tokens of the text one by one; after the first error it takes none any more. */
    private abstract static class Reader {
        private static final int END = 0;
        private static final int WORD = 1;
        private static final int NUMBER = 2;
        private static final int INVALID = 3;
        // Far above every range, and ten times as much is still an int.
        private static final int HUGE = 1000000;

        private final Text text;
        private int kind = END;
        private int start = 0;
        private int end = 0;
        int error = 0;
        int errorPosition = NONE;

        Reader(Text text) {
            this.text = text;
        }

        final void begin() {
            end = 0;
            error = 0;
            errorPosition = NONE;
            next();
        }

        final void fail(int code) {
            if (error == 0) {
                error = code;
                errorPosition = start;
            }
        }

        private static boolean isBlank(int value) {
            return value == ' ' || value == '\n';
        }

        /** The kind of a token that begins with this byte; a sign is its own kind. */
        private static int kindOf(int value) {
            if (value == NONE) {
                return END;
            }
            if (value >= 'a' && value <= 'z') {
                return WORD;
            }
            if (value >= '0' && value <= '9') {
                return NUMBER;
            }
            return value == ';' || value == '(' || value == ')' ? value : INVALID;
        }

        private void next() {
            start = end;
            while (start < text.size() && isBlank(text.at(start))) {
                start++;
            }
            kind = kindOf(text.at(start));
            end = kind == END ? start : start + 1;
            if (kind == WORD || kind == NUMBER) {
                while (end < text.size() && kindOf(text.at(end)) == kind) {
                    end++;
                }
            }
        }

        final boolean seesEnd() {
            return kind == END;
        }

        final boolean seesSign(char sign) {
            return error == 0 && kind == sign;
        }

        final boolean sees(String word) {
            if (error != 0 || kind != WORD || end - start != word.length()) {
                return false;
            }
            for (int i = 0; i < word.length(); i++) {
                if (text.at(start + i) != word.charAt(i)) {
                    return false;
                }
            }
            return true;
        }

        final void takeSign(char sign) {
            if (seesSign(sign)) {
                next();
            } else {
                fail(SYNTAX);
            }
        }

        final void takeWord(String word) {
            if (sees(word)) {
                next();
            } else {
                fail(SYNTAX);
            }
        }

        /** Takes a word of which only so many are allowed, when some were taken before. */
        final void takeCounted(String word, int before, int limit) {
            if (!sees(word)) {
                fail(SYNTAX);
            } else if (before >= limit) {
                fail(TOO_MANY);
            } else {
                next();
            }
        }

        final int takeNumber(int least, int most) {
            int value = 0;
            if (error != 0 || kind != NUMBER) {
                fail(SYNTAX);
                return least;
            }
            for (int i = start; i < end; i++) {
                value = Math.min(value * 10 + text.at(i) - '0', HUGE);
            }
            if (!isWithin(value, least, most)) {
                fail(OUT_OF_RANGE);
                return least;
            }
            next();
            return value;
        }

        /** Takes a name that no other one of the same kind has; answers its code. */
        final int takeNewName(Names names) {
            int code = codeOfName();
            if (names.find(code) != NONE) {
                fail(WRONG_NAME);
            }
            if (error == 0) {
                next();
            }
            return code;
        }

        /** Takes a name; answers the number that it has. */
        final int takeName(Names names) {
            int number = names.find(codeOfName());
            if (number == NONE) {
                fail(WRONG_NAME);
            }
            if (error == 0) {
                next();
            }
            return number;
        }

        private int codeOfName() {
            if (error != 0 || kind != WORD) {
                fail(SYNTAX);
                return 0;
            }
            if (end - start > NAME_LIMIT) {
                fail(OUT_OF_RANGE);
                return 0;
            }
            return Names.codeOf(text, start, end);
        }
    }

    /** Reads the text as a setup. */
    private static final class SetupReader extends Reader {
        SetupReader(Text text) {
            super(text);
        }

        /** Answers 0 or the error code; with an error the setup is unfit for use. */
        int readInto(Setup setup) {
            setup.clear();
            begin();
            readShop(setup);
            readNames("event", setup.events);
            readNames("place", setup.places);
            readCustomers(setup);
            readOwls(setup);
            if (!seesEnd()) {
                fail(SYNTAX);
            }
            return error;
        }

        private void readShop(Setup setup) {
            takeWord("shop");
            setup.cash = takeNumber(0, 99999);
            setup.rate = takeNumber(1, 9);
            setup.grace = takeNumber(0, 99);
            setup.percentage = takeNumber(0, 200);
            setup.vaguePercentage = takeNumber(0, 200);
            takeSign(';');
        }

        private void readNames(String word, Names names) {
            if (!sees(word)) {
                fail(SYNTAX);
            }
            for (int n = 0; n <= KIND_LIMIT && sees(word); n++) {
                takeCounted(word, n, KIND_LIMIT);
                names.add(takeNewName(names));
                takeSign(';');
            }
        }

        private void readCustomers(Setup setup) {
            for (int n = 0; n <= CUSTOMER_LIMIT && sees("customer"); n++) {
                takeCounted("customer", n, CUSTOMER_LIMIT);
                int name = takeNewName(setup.customers);
                int purse = takeNumber(0, 9999);
                int distance = takeNumber(1, 30);
                takeSign(';');
                setup.addCustomer(name, purse, distance);
            }
        }

        private void readOwls(Setup setup) {
            for (int n = 0; n <= OWL_LIMIT && sees("owl"); n++) {
                takeCounted("owl", n, OWL_LIMIT);
                int speed = takeNumber(1, 9);
                takeSign(';');
                setup.addOwl(speed);
            }
        }
    }

    /** A step of a script: a command, or the bracket that closes a repeat. */
    private static final class Step {
        static final int SELL = 0;
        static final int HAPPEN = 1;
        static final int ASK = 2;
        static final int PASS = 3;
        static final int REPEAT = 4;
        static final int CLOSE = 5;

        int act = SELL;
        int customer = 0;
        int kind = PLAIN;
        int event = 0;
        int place = NONE;
        int delay = 0;
        int length = 0;
        int price = 0;
        // The prophecy of an ask, the days of a pass, the times of a repeat.
        int number = 0;
        // The step at the other end of a repeat.
        int partner = 0;
        int roundsLeft = 0;
    }

    /** Reads the text as a script and executes it. */
    private static final class Script extends Reader {
        private static final int STEP_LIMIT = 2 * COMMAND_LIMIT;
        // Two nested repeats of nothing but empty repeats make some 12,000 moves.
        private static final int MOVE_LIMIT = 1000000;

        private final Step[] steps = new Step[STEP_LIMIT];
        private int stepCount = 0;
        private int commandCount = 0;
        private final int[] openRepeats = new int[BRACKET_LIMIT];
        private int depth = 0;

        Script(Text text) {
            super(text);
            for (int i = 0; i < STEP_LIMIT; i++) {
                steps[i] = new Step();
            }
        }

        /** Answers 0 or the error code; with an error the script is unfit for execution. */
        int readFor(Setup setup) {
            stepCount = 0;
            commandCount = 0;
            depth = 0;
            begin();
            for (int n = 0; n < TEXT_LIMIT && error == 0 && !seesEnd(); n++) {
                if (depth > 0 && seesSign(')')) {
                    closeRepeat();
                } else {
                    readCommand(setup);
                }
            }
            if (depth > 0) {
                fail(SYNTAX);
            }
            return error;
        }

        private void readCommand(Setup setup) {
            if (sees("sell")) {
                readSell(addCommand("sell", Step.SELL), setup);
            } else if (sees("happen")) {
                readHappen(addCommand("happen", Step.HAPPEN), setup);
            } else if (sees("ask")) {
                addCommand("ask", Step.ASK).number = takeNumber(0, PROPHECY_LIMIT - 1);
                takeSign(';');
            } else if (sees("pass")) {
                addCommand("pass", Step.PASS).number = takeNumber(1, ADVANCE_LIMIT);
                takeSign(';');
            } else if (sees("repeat")) {
                addCommand("repeat", Step.REPEAT).number = takeNumber(0, REPEAT_LIMIT);
                openRepeat();
            } else {
                fail(SYNTAX);
            }
        }

        private Step addCommand(String word, int act) {
            takeCounted(word, commandCount, COMMAND_LIMIT);
            commandCount++;
            return addStep(act);
        }

        private Step addStep(int act) {
            int at = stepCount < STEP_LIMIT ? stepCount : STEP_LIMIT - 1;
            steps[at].act = act;
            stepCount = at + 1;
            return steps[at];
        }

        private void readSell(Step step, Setup setup) {
            step.customer = takeName(setup.customers);
            step.kind = takeProphecyKind();
            step.event = takeName(setup.events);
            step.place = step.kind == VAGUE ? NONE : takeName(setup.places);
            step.delay = takeNumber(0, DELAY_LIMIT);
            step.length = takeNumber(1, LENGTH_LIMIT);
            step.price = takeNumber(1, PRICE_LIMIT);
            takeSign(';');
        }

        private int takeProphecyKind() {
            if (sees("vague")) {
                takeWord("vague");
                return VAGUE;
            }
            if (sees("never")) {
                takeWord("never");
                return DENIAL;
            }
            takeWord("plain");
            return PLAIN;
        }

        private void readHappen(Step step, Setup setup) {
            step.event = takeName(setup.events);
            step.place = takeName(setup.places);
            takeSign(';');
        }

        private void openRepeat() {
            if (seesSign('(') && depth >= BRACKET_LIMIT) {
                fail(TOO_MANY);
            }
            takeSign('(');
            if (error == 0 && depth < BRACKET_LIMIT) {
                openRepeats[depth] = stepCount - 1;
                depth++;
            }
        }

        private void closeRepeat() {
            takeSign(')');
            takeSign(';');
            if (depth > 0) {
                depth--;
                int opening = openRepeats[depth];
                addStep(Step.CLOSE).partner = opening;
                stepAt(opening).partner = stepCount - 1;
            }
        }

        private Step stepAt(int index) {
            return steps[index >= 0 && index < STEP_LIMIT ? index : 0];
        }

        /** Answers how many commands were executed. */
        int execute(Shop shop) {
            int executed = 0;
            int at = 0;
            for (int n = 0; n < MOVE_LIMIT && at < stepCount && executed < EXECUTION_LIMIT; n++) {
                Step step = stepAt(at);
                if (step.act == Step.REPEAT) {
                    step.roundsLeft = step.number;
                    at = step.number > 0 ? at + 1 : step.partner + 1;
                } else if (step.act == Step.CLOSE) {
                    Step opening = stepAt(step.partner);
                    opening.roundsLeft--;
                    at = opening.roundsLeft > 0 ? step.partner + 1 : at + 1;
                } else if (perform(step, shop)) {
                    executed++;
                    at++;
                } else {
                    return executed;
                }
            }
            return executed;
        }

        /** Answers false, and changes nothing, if the method of the command would throw. */
        private static boolean perform(Step step, Shop shop) {
            if (faultOf(step, shop) != FINE) {
                return false;
            }
            switch (step.act) {
                case Step.SELL:
                    shop.addProphecy(step.customer, step.kind, step.event, step.place,
                        step.delay, step.length, step.price);
                    break;
                case Step.HAPPEN:
                    shop.noteHappening(step.event, step.place);
                    break;
                case Step.ASK:
                    shop.addRequest(step.number);
                    break;
                default:
                    shop.passDays(step.number);
                    break;
            }
            return true;
        }

        private static int faultOf(Step step, Shop shop) {
            switch (step.act) {
                case Step.SELL:
                    return shop.faultOfSale(step.customer, step.kind, step.event, step.place,
                        step.delay, step.length, step.price);
                case Step.HAPPEN:
                    return shop.faultOfHappening(step.event, step.place);
                case Step.ASK:
                    return shop.faultOfRequest(step.number);
                default:
                    return shop.faultOfDays(step.number);
            }
        }
    }
}
