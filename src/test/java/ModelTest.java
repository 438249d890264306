import java.util.Random;
import java.util.concurrent.Callable;

/** Random runs of calls, each answer compared with the Model's: all promises together. */
public final class ModelTest {
    private static final int RUNS = 400;
    private static final String[] STATES = {"open", "fulfilled", "failed", "refunded"};

    private final Random random;
    private final String run;
    private final ProphecyShop shop = new ProphecyShop();
    private final Model model = new Model();

    private ModelTest(int seed) {
        random = new Random(seed);
        run = "seed " + seed;
    }

    public static void main(String[] args) {
        for (int seed = 0; seed < RUNS; seed++) {
            new ModelTest(seed).run();
        }
        Checks.end("ModelTest");
    }

    private void run() {
        // Each round makes a handful of calls that count; the looks in between are more than 512, which may be.
        for (int round = 0; round < 60; round++) {
            oneCall();
            compareNumbers();
            compareProphecies();
            if (round % 6 == 0) {
                compareForecasts();
            }
        }
    }

    private void same(String call, Callable<Integer> got, Callable<Integer> want) {
        Checks.due(run + ": " + call, answer(got), answer(want));
    }

    private static String answer(Callable<Integer> call) {
        try {
            return call.call().toString();
        } catch (Exception e) {
            return e.getClass().getSimpleName();
        }
    }

    private int pick(int count) {
        return random.nextInt(20) == 0 ? random.nextInt(count + 4) - 2 : random.nextInt(Math.max(1, count));
    }

    private void oneCall() {
        int customer = pick(model.facts.customers.size());
        int event = pick(model.facts.events.size());
        int place = pick(model.facts.places.size());
        int delay = random.nextInt(8) == 0 ? random.nextInt(103) - 1 : random.nextInt(4);
        int length = random.nextInt(8) == 0 ? random.nextInt(64) - 1 : 1 + random.nextInt(6);
        int price = random.nextInt(8) == 0 ? random.nextInt(1010) - 5 : 1 + random.nextInt(30);
        int prophecy = pick(model.state.sold.size());
        int days = random.nextInt(6) == 0 ? random.nextInt(65) - 2 : 1 + random.nextInt(3);
        int slot = pick(2);
        switch (random.nextInt(20)) {
            case 0: case 1:
                same("sellPlain", () -> shop.sellPlain(customer, event, place, delay, length, price),
                    () -> model.change("plain", customer, event, place, delay, length, price));
                break;
            case 2: case 3:
                same("sellVague", () -> shop.sellVague(customer, event, delay, length, price),
                    () -> model.change("vague", customer, event, 0, delay, length, price));
                break;
            case 4: case 5:
                same("sellDenial", () -> shop.sellDenial(customer, event, place, delay, length, price),
                    () -> model.change("never", customer, event, place, delay, length, price));
                break;
            case 6: case 7:
                same("happen", () -> shop.happen(event, place), () -> model.change("happen", event, place));
                break;
            case 8: case 9: case 10:
                same("ask", () -> shop.ask(prophecy), () -> model.change("ask", prophecy));
                break;
            case 11: case 12: case 13:
                same("advance", () -> shop.advance(days), () -> model.change("pass", days));
                break;
            case 14:
                same("undo", shop::undo, model::undo);
                break;
            case 15:
                same("save", () -> shop.save(slot), () -> model.save(slot));
                break;
            case 16:
                same("restore", () -> shop.restore(slot), () -> model.restore(slot));
                break;
            case 17:
                if (random.nextInt(3) == 0) {
                    put(spoiled(setup()));
                    same("load", shop::load, model::load);
                }
                break;
            default:
                put(spoiled(script(0)));
                same("runScript", shop::runScript, model::runScript);
                break;
        }
    }

    private void put(String text) {
        String fitting = text.substring(0, Math.min(800, text.length()));
        Checks.put(shop, fitting);
        model.text = fitting;
    }

    private void compareNumbers() {
        Model.State m = model.state;
        Checks.due(run + ": errorCode", shop.errorCode(), model.errorCode);
        Checks.due(run + ": errorPosition", shop.errorPosition(), model.errorPosition);
        Checks.due(run + ": text", shop.append(0, 0, 0, 0, 0), model.text.length());
        Checks.due(run + ": undoCount", shop.undoCount(), model.undoCount());
        Checks.due(run + ": day", shop.day(), m.day);
        Checks.due(run + ": cash", shop.cash(), m.cash);
        Checks.due(run + ": eventCount", shop.eventCount(), model.facts.events.size());
        Checks.due(run + ": placeCount", shop.placeCount(), model.facts.places.size());
        Checks.due(run + ": customerCount", shop.customerCount(), m.purses.length);
        for (int c = 0; c < m.purses.length; c++) {
            Checks.due(run + ": purse " + c, shop.purse(c), m.purses[c]);
        }
        int idle = 0;
        for (int owl = 0; owl < m.flights.length; owl++) {
            Model.Flight f = m.flights[owl];
            boolean outward = f != null && f.arrival > m.day;
            idle += f == null ? 1 : 0;
            Checks.due(run + ": owlDays", shop.owlDays(owl), f == null ? 0 : (outward ? f.arrival : f.home) - m.day);
            Checks.due(run + ": owlCoins", shop.owlCoins(owl), outward ? f.coins : 0);
        }
        Checks.due(run + ": idleOwls", shop.idleOwls(), idle);
        Checks.due(run + ": handledRequests", shop.handledRequests(), m.handled);
        Checks.due(run + ": refundTotal", shop.refundTotal(), m.refunds);
        Checks.due(run + ": contradictions", shop.contradictions(), 0);
        compareHappenings(m);
    }

    private void compareHappenings(Model.State m) {
        int liveliest = 0;
        int most = -1;
        for (int place = 0; place < model.facts.places.size(); place++) {
            int all = 0;
            for (int event = 0; event < model.facts.events.size(); event++) {
                String what = event + " " + place + " ";
                int times = (int) m.happened.stream().filter(h -> h.startsWith(what)).count();
                Checks.due(run + ": timesHappened", shop.timesHappened(event, place), times);
                int day = Math.max(0, m.day - random.nextInt(4));
                Checks.due(run + ": hasHappened", shop.hasHappened(event, place, day), m.happened.contains(what + day));
                all += times;
            }
            if (all > most) {
                most = all;
                liveliest = place;
            }
        }
        Checks.due(run + ": liveliestPlace", shop.liveliestPlace(), liveliest);
    }

    private void compareProphecies() {
        Model.State m = model.state;
        Checks.due(run + ": prophecyCount", shop.prophecyCount(), m.sold.size());
        int[] counts = new int[4];
        double prices = 0;
        for (int p = 0; p < m.sold.size(); p++) {
            Model.Sold want = m.sold.get(p);
            compareProphecy(p, want);
            for (int state = 0; state < 4; state++) {
                counts[state] += want.state.equals(STATES[state]) ? 1 : 0;
            }
            prices += want.price;
        }
        for (int state = 0; state < 4; state++) {
            Checks.due(run + ": countIn " + state, shop.countIn(state), counts[state]);
        }
        int decided = counts[1] + counts[2] + counts[3];
        Checks.due(run + ": truthShare", shop.truthShare(), decided == 0 ? 0f : (float) counts[1] / (float) decided);
        Checks.due(run + ": meanPrice", shop.meanPrice(), m.sold.isEmpty() ? 0.0 : prices / m.sold.size());
        String queue = m.queue.toString().replaceAll("[\\[\\] ]", "");
        Checks.due(run + ": writeQueue", shop.writeQueue(), queue.length());
        Checks.due(run + ": the queue", Checks.output(shop), queue);
        Checks.due(run + ": queueLength", shop.queueLength(), m.queue.size());
    }

    private void compareProphecy(int p, Model.Sold want) {
        Checks.due(run + ": customerOf", shop.customerOf(p), want.customer);
        Checks.due(run + ": eventOf", shop.eventOf(p), want.event);
        Checks.due(run + ": placeOf", shop.placeOf(p), want.place);
        Checks.due(run + ": isDenial", shop.isDenial(p), want.kind.equals("never"));
        Checks.due(run + ": firstDay", shop.firstDay(p), want.first);
        Checks.due(run + ": lastDay", shop.lastDay(p), want.last);
        Checks.due(run + ": stateOf", STATES[shop.stateOf(p)], want.state);
        boolean open = want.state.equals("open");
        Checks.due(run + ": decidedOn", answer(() -> shop.decidedOn(p)),
            open ? "NoSuchElementException" : Integer.toString(want.decided));
        Checks.due(run + ": refundOf", shop.refundOf(p), model.state.refund(want));
        Checks.due(run + ": placeInQueue", shop.placeInQueue(p),
            new java.util.ArrayList<>(model.state.queue).indexOf(p));
        Checks.due(run + ": answerFor", shop.answerFor(p), want.answer);
        Checks.due(run + ": expectedAnswer", shop.expectedAnswer(p), model.state.expected(want));
        Checks.due(run + ": daysUntilDecided", shop.daysUntilDecided(p), open ? want.last + 1 - model.state.day : 0);
        String written = model.facts.customers.get(want.customer) + (want.kind.equals("never") ? ":!" : ":")
            + model.facts.events.get(want.event) + "@" + (want.place < 0 ? "*" : model.facts.places.get(want.place))
            + " " + want.first + "-" + want.last;
        shop.writeProphecy(p);
        Checks.due(run + ": writeProphecy", Checks.output(shop), written);
    }

    private void compareForecasts() {
        Model.State m = model.again();
        int[] refunded = new int[m.sold.size()];
        java.util.Arrays.fill(refunded, -1);
        for (int day = 0; day <= 300; day++) {
            if (day < 20 || day % 37 == 0 || day > 297) {
                Checks.due(run + ": cashAfter " + day, shop.cashAfter(day), m.cash);
            }
            for (int p = 0; p < refunded.length; p++) {
                if (refunded[p] < 0 && m.sold.get(p).state.equals("refunded")) {
                    refunded[p] = day;
                }
            }
            m.pass();
        }
        for (int p = 0; p < refunded.length; p++) {
            Checks.due(run + ": daysUntilRefunded", shop.daysUntilRefunded(p), refunded[p]);
        }
    }

    // ---- random texts

    private static final String[] NAMES = {"a", "b", "rain", "war", "inn", "mill", "zz", "event", "abcdef"};
    private static final String[] PIECES = {"", " ", ";", "(", ")", "0", "7", "99999", "x", "rain", "abcdefg", "sell",
        "event", "place", "customer c 1 1;", "owl 1;", "pass 1;", "repeat 2 (", "!", "\u00e9", "\n", "\t"};

    private String setup() {
        StringBuilder s = new StringBuilder("shop " + random.nextInt(300) + " " + (1 + random.nextInt(4)) + " "
            + random.nextInt(12) + " " + random.nextInt(201) + " " + random.nextInt(201) + ";");
        for (int i = 0, n = 1 + few(7); i < n; i++) {
            s.append("event ").append(NAMES[(i * 2 + n) % NAMES.length]).append(";");
        }
        for (int i = 0, n = 1 + few(7); i < n; i++) {
            s.append(" place ").append(NAMES[(i * 4 + n) % NAMES.length]).append(" ;");
        }
        for (int i = 0, n = few(9); i < n; i++) {
            s.append("\ncustomer ").append(NAMES[(i + n) % NAMES.length]).append(' ').append(random.nextInt(500));
            s.append(' ').append(1 + random.nextInt(30)).append(";");
        }
        for (int i = 0, n = few(6); i < n; i++) {
            s.append("owl ").append(1 + random.nextInt(9)).append(";");
        }
        return s.toString();
    }

    private int few(int most) {
        return random.nextInt(8) == 0 ? most : random.nextInt(Math.min(most, 5));
    }

    private String script(int depth) {
        StringBuilder s = new StringBuilder();
        int count = random.nextInt(30) == 0 ? 31 : random.nextInt(5);
        for (int i = 0; i < count; i++) {
            s.append(command(depth)).append(';').append(random.nextBoolean() ? " " : "");
        }
        return s.toString();
    }

    private String command(int depth) {
        switch (random.nextInt(depth < 2 || random.nextInt(10) == 0 ? 9 : 7)) {
            case 0: return "pass " + (1 + random.nextInt(5));
            case 1: case 2: return "ask " + random.nextInt(Math.min(24, model.state.sold.size() + 2));
            case 3: return "happen " + name(model.facts.events) + " " + name(model.facts.places);
            case 4: return "sell " + name(model.facts.customers) + " plain " + name(model.facts.events) + " "
                + name(model.facts.places) + sale();
            case 5: return "sell " + name(model.facts.customers) + " vague " + name(model.facts.events) + sale();
            case 6: return "sell " + name(model.facts.customers) + " never " + name(model.facts.events) + " "
                + name(model.facts.places) + sale();
            default: return "repeat " + random.nextInt(5) + " (" + script(depth + 1) + ")";
        }
    }

    private String sale() {
        return " " + random.nextInt(4) + " " + (1 + random.nextInt(6)) + " " + (1 + random.nextInt(30));
    }

    private String name(java.util.List<String> names) {
        return names.isEmpty() || random.nextInt(60) == 0 ? "nobody" : names.get(random.nextInt(names.size()));
    }

    /** Now and then the text with a piece cut out or put in. */
    private String spoiled(String text) {
        if (random.nextInt(3) != 0) {
            return text;
        }
        int from = random.nextInt(text.length() + 1);
        int to = Math.min(text.length(), from + (random.nextBoolean() ? 0 : random.nextInt(6)));
        return text.substring(0, from) + PIECES[random.nextInt(PIECES.length)] + text.substring(to);
    }
}
