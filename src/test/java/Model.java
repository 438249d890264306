import java.util.ArrayDeque;
import java.util.ArrayList;
import java.util.Arrays;
import java.util.LinkedHashSet;
import java.util.List;
import java.util.regex.Matcher;
import java.util.regex.Pattern;

/**
 * The shop once more, written from the document in another way: a state is never copied, but made anew
 * from the setup and the changes since then, so that undo and slots are nothing but shorter lists of changes.
 */
final class Model {
    /** The code and the position of an error in a text. */
    static final class TextError extends Exception {
        private static final long serialVersionUID = 1;
        final int code;
        final int position;

        TextError(int code, int position) {
            this.code = code;
            this.position = position;
        }
    }

    /** What the parsers read from. */
    static final class Tokens {
        private static final Pattern TOKEN = Pattern.compile("[ \\n]*([a-z]+|[0-9]+|[^ \\n]|$)", Pattern.DOTALL);
        private final List<String> words = new ArrayList<>();
        private final List<Integer> starts = new ArrayList<>();
        private int at = 0;

        Tokens(String text) {
            Matcher m = TOKEN.matcher(text);
            int from = 0;
            while (m.find(from)) {
                words.add(m.group(1));
                starts.add(m.start(1));
                if (m.group(1).isEmpty()) {
                    break;
                }
                from = m.end();
            }
        }

        String peek() {
            return words.get(at);
        }

        boolean isNext(String word) {
            return peek().equals(word);
        }

        TextError error(int code) {
            return new TextError(code, starts.get(at));
        }

        void expect(String word) throws TextError {
            if (!isNext(word)) {
                throw error(1);
            }
            at++;
        }

        void expectCounted(String word, int before, int limit) throws TextError {
            if (isNext(word) && before == limit) {
                throw error(4);
            }
            expect(word);
        }

        int number(int least, int most) throws TextError {
            if (!peek().matches("[0-9]+")) {
                throw error(1);
            }
            java.math.BigInteger value = new java.math.BigInteger(peek());
            if (value.bitLength() > 30 || value.intValue() < least || value.intValue() > most) {
                throw error(2);
            }
            at++;
            return value.intValue();
        }

        String name() throws TextError {
            if (!peek().matches("[a-z]+")) {
                throw error(1);
            }
            if (peek().length() > 6) {
                throw error(2);
            }
            return peek();
        }

        String newName(List<String> names) throws TextError {
            String name = name();
            if (names.contains(name)) {
                throw error(3);
            }
            at++;
            return name;
        }

        int oldName(List<String> names) throws TextError {
            int number = names.indexOf(name());
            if (number < 0) {
                throw error(3);
            }
            at++;
            return number;
        }
    }

    /** A parsed setup. */
    static final class Facts {
        int[] numbers = new int[5];
        final List<String> events = new ArrayList<>();
        final List<String> places = new ArrayList<>();
        final List<String> customers = new ArrayList<>();
        final List<int[]> homes = new ArrayList<>();
        final List<Integer> owls = new ArrayList<>();

        Facts(String text) throws TextError {
            Tokens t = new Tokens(text);
            t.expect("shop");
            int[] most = {99999, 9, 99, 200, 200};
            for (int i = 0; i < 5; i++) {
                numbers[i] = t.number(i == 1 ? 1 : 0, most[i]);
            }
            t.expect(";");
            do {
                t.expectCounted("event", events.size(), 6);
                events.add(t.newName(events));
                t.expect(";");
            } while (t.isNext("event"));
            do {
                t.expectCounted("place", places.size(), 6);
                places.add(t.newName(places));
                t.expect(";");
            } while (t.isNext("place"));
            while (t.isNext("customer")) {
                t.expectCounted("customer", customers.size(), 8);
                customers.add(t.newName(customers));
                homes.add(new int[] {t.number(0, 9999), t.number(1, 30)});
                t.expect(";");
            }
            while (t.isNext("owl")) {
                t.expectCounted("owl", owls.size(), 5);
                owls.add(t.number(1, 9));
                t.expect(";");
            }
            t.expect("");
        }
    }

    /** A command of a script or a method that is a change: its name and its numbers. */
    static final class Change {
        final String name;
        final int[] args;
        final List<Change> body;

        Change(String name, List<Change> body, int... args) {
            this.name = name;
            this.body = body;
            this.args = args;
        }
    }

    /** Parses a script. */
    static final class ScriptParser {
        private final Tokens t;
        private final Facts facts;
        private int commands = 0;

        ScriptParser(String text, Facts facts) {
            t = new Tokens(text);
            this.facts = facts;
        }

        List<Change> whole() throws TextError {
            List<Change> script = script(0);
            t.expect("");
            return script;
        }

        private List<Change> script(int depth) throws TextError {
            List<Change> list = new ArrayList<>();
            while (Arrays.asList("sell", "happen", "ask", "pass", "repeat").contains(t.peek())) {
                list.add(command(depth));
                t.expect(";");
            }
            return list;
        }

        private Change command(int depth) throws TextError {
            String word = t.peek();
            t.expectCounted(word, commands, 30);
            commands++;
            switch (word) {
                case "sell": return sale();
                case "happen": return new Change(word, null, t.oldName(facts.events), t.oldName(facts.places));
                case "ask": return new Change(word, null, t.number(0, 23));
                case "pass": return new Change(word, null, t.number(1, 60));
                default:
                    int times = t.number(0, 20);
                    t.expectCounted("(", depth, 2);
                    Change repeat = new Change(word, script(depth + 1), times);
                    t.expect(")");
                    return repeat;
            }
        }

        private Change sale() throws TextError {
            int customer = t.oldName(facts.customers);
            String kind = t.peek();
            if (!kind.equals("plain") && !kind.equals("vague") && !kind.equals("never")) {
                throw t.error(1);
            }
            t.expect(kind);
            int event = t.oldName(facts.events);
            int place = kind.equals("vague") ? 0 : t.oldName(facts.places);
            return new Change(kind, null, customer, event, place, t.number(0, 99), t.number(1, 60), t.number(1, 999));
        }
    }

    /** A sold prophecy. */
    static final class Sold {
        String kind;
        int customer;
        int event;
        int place;
        int first;
        int last;
        int price;
        String state = "open";
        int decided;
        int answer = 0;
    }

    /** Flights are told by the days on which they end. */
    static final class Flight {
        int arrival;
        int home;
        int customer;
        int coins;
    }

    /** The state after some changes. */
    static final class State {
        final Facts facts;
        int day = 0;
        int cash;
        final int[] purses;
        final List<Sold> sold = new ArrayList<>();
        final LinkedHashSet<String> happened = new LinkedHashSet<>();
        final ArrayDeque<Integer> queue = new ArrayDeque<>();
        final Flight[] flights;
        int handled = 0;
        int refunds = 0;

        State(Facts facts) {
            this.facts = facts;
            cash = facts.numbers[0];
            purses = new int[facts.customers.size()];
            for (int i = 0; i < purses.length; i++) {
                purses[i] = facts.homes.get(i)[0];
            }
            flights = new Flight[facts.owls.size()];
        }

        /** Makes the change and answers what the method answers. */
        int make(Change c) {
            int[] a = c.args;
            switch (c.name) {
                case "happen": return happen(a[0], a[1]);
                case "ask": return ask(a[0]);
                case "pass": return pass(a[0]);
                case "script": return run(c.body);
                default: return sell(c.name, a);
            }
        }

        private int sell(String kind, int[] a) {
            need(a[0], purses.length);
            need(a[1], facts.events.size());
            if (!kind.equals("vague")) {
                need(a[2], facts.places.size());
            }
            if (a[3] < 0 || a[3] > 99 || a[4] < 1 || a[4] > 60 || a[5] < 1 || a[5] > 999) {
                throw new IllegalArgumentException();
            }
            if (sold.size() == 24 || purses[a[0]] < a[5]) {
                throw new IllegalStateException();
            }
            Sold p = new Sold();
            p.kind = kind;
            p.customer = a[0];
            p.event = a[1];
            p.place = kind.equals("vague") ? -1 : a[2];
            p.first = day + a[3];
            p.last = day + a[3] + a[4] - 1;
            p.price = a[5];
            purses[a[0]] -= a[5];
            cash += a[5];
            sold.add(p);
            return sold.size() - 1;
        }

        private int happen(int event, int place) {
            need(event, facts.events.size());
            need(place, facts.places.size());
            if (happened.size() == 60 || !happened.add(event + " " + place + " " + day)) {
                throw new IllegalStateException();
            }
            int decided = 0;
            for (Sold p : sold) {
                boolean meant = p.event == event && (p.place == -1 || p.place == place) && day >= p.first;
                if (meant && p.state.equals("open")) {
                    p.state = p.kind.equals("never") ? "failed" : "fulfilled";
                    p.decided = day;
                    decided++;
                }
            }
            return decided;
        }

        private int ask(int prophecy) {
            need(prophecy, sold.size());
            if (queue.contains(prophecy)) {
                throw new IllegalStateException();
            }
            queue.add(prophecy);
            return queue.size();
        }

        private int pass(int days) {
            if (days < 1 || days > 60) {
                throw new IllegalArgumentException();
            }
            if (day > 9999 - days) {
                throw new IllegalStateException();
            }
            int before = handled;
            for (int i = 0; i < days; i++) {
                pass();
            }
            return handled - before;
        }

        void pass() {
            day++;
            for (Sold p : sold) {
                if (p.state.equals("open") && day > p.last) {
                    p.state = p.kind.equals("never") ? "fulfilled" : "failed";
                    p.decided = day;
                }
            }
            for (int i = 0; i < flights.length; i++) {
                Flight f = flights[i];
                if (f != null && f.arrival == day) {
                    purses[f.customer] += f.coins;
                }
                if (f != null && f.home == day) {
                    flights[i] = null;
                }
            }
            int requests = 0;
            while (!queue.isEmpty() && requests < facts.numbers[1]) {
                Sold p = sold.get(queue.peek());
                int answer = expected(p);
                if (answer == 1 && idle() < 0) {
                    break;
                }
                if (answer == 1) {
                    refund(p, idle());
                }
                p.answer = answer;
                queue.remove();
                requests++;
            }
            handled += requests;
        }

        private void refund(Sold p, int owl) {
            int distance = facts.homes.get(p.customer)[1];
            int time = (int) Math.ceil(distance / (double) facts.owls.get(owl));
            Flight f = new Flight();
            f.arrival = day + time;
            f.home = day + 2 * time;
            f.customer = p.customer;
            f.coins = refund(p);
            flights[owl] = f;
            p.state = "refunded";
            cash -= f.coins;
            refunds += f.coins;
        }

        private int idle() {
            return Arrays.asList(flights).indexOf(null);
        }

        int refund(Sold p) {
            return p.price * facts.numbers[p.kind.equals("vague") ? 4 : 3] / 100;
        }

        int expected(Sold p) {
            switch (p.state) {
                case "open": return 2;
                case "fulfilled": return 3;
                case "refunded": return 4;
                default: return day > p.decided + facts.numbers[2] ? 5 : refund(p) > cash ? 6 : 1;
            }
        }

        private int run(List<Change> script) {
            int[] left = {40};
            runOn(script, left);
            return 40 - left[0];
        }

        /** Answers false if the execution has ended. */
        private boolean runOn(List<Change> script, int[] left) {
            for (Change c : script) {
                if (c.name.equals("repeat")) {
                    for (int i = 0; i < c.args[0]; i++) {
                        if (!runOn(c.body, left)) {
                            return false;
                        }
                    }
                } else {
                    if (left[0] == 0) {
                        return false;
                    }
                    try {
                        make(c);
                    } catch (RuntimeException e) {
                        return false;
                    }
                    left[0]--;
                }
            }
            return true;
        }

        static void need(int number, int count) {
            if (number < 0 || number >= count) {
                throw new IndexOutOfBoundsException();
            }
        }
    }

    Facts facts;
    String text = "";
    int errorCode = 0;
    int errorPosition = -1;
    private List<Change> made = new ArrayList<>();
    private int undoable = 0;
    private final List<List<Change>> slots = new ArrayList<>(Arrays.asList(null, null));
    State state;

    Model() {
        try {
            facts = new Facts("shop 100 2 5 100 50; event rain; event war; place inn; place mill; place pass; "
                + "customer ada 80 4; customer ben 300 9; customer cai 20 15; owl 3; owl 5;");
        } catch (TextError e) {
            throw new IllegalStateException(e);
        }
        state = new State(facts);
    }

    /** The state after all changes, made anew; to be done with as one likes. */
    State again() {
        State s = new State(facts);
        for (Change c : made) {
            s.make(c);
        }
        return s;
    }

    int change(String name, int... args) {
        return record(new Change(name, null, args));
    }

    private int record(Change c) {
        int answer = state.make(c);
        made.add(c);
        undoable = Math.min(8, undoable + 1);
        return answer;
    }

    private void noteError(int code, int position) {
        text = "";
        errorCode = code;
        errorPosition = position;
    }

    int load() {
        try {
            facts = new Facts(text);
            noteError(0, -1);
            made = new ArrayList<>();
            undoable = 0;
            slots.set(0, null);
            slots.set(1, null);
            state = new State(facts);
        } catch (TextError e) {
            noteError(e.code, e.position);
        }
        return errorCode;
    }

    int runScript() {
        try {
            List<Change> script = new ScriptParser(text, facts).whole();
            noteError(0, -1);
            return record(new Change("script", script));
        } catch (TextError e) {
            noteError(e.code, e.position);
            return -1;
        }
    }

    int undoCount() {
        return undoable;
    }

    int undo() {
        if (undoable == 0) {
            throw new IllegalStateException();
        }
        made.remove(made.size() - 1);
        undoable--;
        state = again();
        return undoable;
    }

    int save(int slot) {
        State.need(slot, 2);
        slots.set(slot, new ArrayList<>(made));
        return state.day;
    }

    int restore(int slot) {
        State.need(slot, 2);
        if (slots.get(slot) == null) {
            throw new java.util.NoSuchElementException();
        }
        made = new ArrayList<>(slots.get(slot));
        undoable = 0;
        state = again();
        return state.day;
    }
}
