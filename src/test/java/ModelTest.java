import java.util.ArrayList;
import java.util.Collections;
import java.util.List;
import java.util.Random;
import java.util.concurrent.Callable;

/**
 * Random runs of calls, each answer compared with the Model's: all promises together. Each run ends with the 512th call
 * of its object, as nothing is promised beyond it.
 */
public final class ModelTest {
    private static final int RUNS = 3000;
    private static final int CALLS = 512;
    private static final int ROUNDS = 60;
    private static final String[] STATES = {"open", "fulfilled", "failed", "refunded"};

    private final Random random;
    private final String run;
    private final ProphecyShop shop = new ProphecyShop();
    private final Model model = new Model();
    private int calls = 0;

    private ModelTest(int seed) {
        random = new Random(seed);
        run = "seed " + seed;
    }

    public static void main(String[] args) {
        for (int seed = 0; seed < RUNS; seed++) {
            new ModelTest(seed).run();
        }
        Checks.end("ModelTest");
    }

    /** Changes with a few looks between them, and then as many looks as there are calls left. */
    private void run() {
        for (int round = 0; round < ROUNDS && calls < CALLS - 150; round++) {
            oneCall();
            look(3);
        }
        look(Integer.MAX_VALUE);
    }

    private void look(int most) {
        List<Runnable> looks = new ArrayList<>();
        addNumbers(looks);
        addHappenings(looks);
        addFigures(looks);
        for (int p = 0; p < model.state.sold.size(); p++) {
            addProphecy(looks, p, model.state.sold.get(p));
        }
        Collections.shuffle(looks, random);
        // No look makes more than 70 calls.
        for (int i = 0; i < looks.size() && i < most && calls < CALLS - 70; i++) {
            looks.get(i).run();
        }
    }

    /** The object, to be called once. */
    private ProphecyShop shop() {
        calls++;
        return shop;
    }

    private void same(String call, Callable<Integer> got, Callable<Integer> want) {
        Checks.due(run + ": " + call, answer(got), answer(want));
    }

    private static String answer(Callable<Integer> call) {
        try {
            return call.call().toString();
        } catch (Exception e) {
            return e.getClass().getSimpleName();
        }
    }

    private int pick(int count) {
        return random.nextInt(20) == 0 ? random.nextInt(count + 4) - 2 : random.nextInt(Math.max(1, count));
    }

    private void oneCall() {
        int customer = pick(model.facts.customers.size());
        int event = pick(model.facts.events.size());
        int place = pick(model.facts.places.size());
        int delay = random.nextInt(8) == 0 ? random.nextInt(103) - 1 : random.nextInt(4);
        int length = random.nextInt(8) == 0 ? random.nextInt(64) - 1 : 1 + random.nextInt(6);
        int price = random.nextInt(8) == 0 ? random.nextInt(1010) - 5 : 1 + random.nextInt(30);
        int prophecy = pick(model.state.sold.size());
        int days = random.nextInt(6) == 0 ? random.nextInt(65) - 2 : 1 + random.nextInt(3);
        int slot = pick(2);
        switch (random.nextInt(20)) {
            case 0: case 1:
                same("sellPlain", () -> shop().sellPlain(customer, event, place, delay, length, price),
                    () -> model.change("plain", customer, event, place, delay, length, price));
                break;
            case 2: case 3:
                same("sellVague", () -> shop().sellVague(customer, event, delay, length, price),
                    () -> model.change("vague", customer, event, 0, delay, length, price));
                break;
            case 4: case 5:
                same("sellDenial", () -> shop().sellDenial(customer, event, place, delay, length, price),
                    () -> model.change("never", customer, event, place, delay, length, price));
                break;
            case 6: case 7:
                same("happen", () -> shop().happen(event, place), () -> model.change("happen", event, place));
                break;
            case 8: case 9: case 10:
                same("ask", () -> shop().ask(prophecy), () -> model.change("ask", prophecy));
                break;
            case 11: case 12: case 13:
                same("advance", () -> shop().advance(days), () -> model.change("pass", days));
                break;
            case 14:
                same("undo", () -> shop().undo(), model::undo);
                break;
            case 15:
                same("save", () -> shop().save(slot), () -> model.save(slot));
                break;
            case 16:
                same("restore", () -> shop().restore(slot), () -> model.restore(slot));
                break;
            case 17:
                if (random.nextInt(3) == 0) {
                    put(spoiled(setup()));
                    same("load", () -> shop().load(), model::load);
                }
                break;
            default:
                put(spoiled(script(0)));
                same("runScript", () -> shop().runScript(), model::runScript);
                break;
        }
    }

    private void put(String text) {
        String fitting = text.substring(0, Math.min(800, text.length()));
        calls += (fitting.length() + 19) / 20;
        Checks.put(shop, fitting);
        model.text = fitting;
    }

    private void addLook(List<Runnable> looks, String what, Callable<Integer> got, int want) {
        looks.add(() -> Checks.due(run + ": " + what, answer(got), Integer.toString(want)));
    }

    private void addNumbers(List<Runnable> looks) {
        Model.State m = model.state;
        addLook(looks, "errorCode", () -> shop().errorCode(), model.errorCode);
        addLook(looks, "errorPosition", () -> shop().errorPosition(), model.errorPosition);
        addLook(looks, "text", () -> shop().append(0, 0, 0, 0, 0), model.text.length());
        addLook(looks, "undoCount", () -> shop().undoCount(), model.undoCount());
        addLook(looks, "day", () -> shop().day(), m.day);
        addLook(looks, "cash", () -> shop().cash(), m.cash);
        addLook(looks, "eventCount", () -> shop().eventCount(), model.facts.events.size());
        addLook(looks, "placeCount", () -> shop().placeCount(), model.facts.places.size());
        addLook(looks, "customerCount", () -> shop().customerCount(), m.purses.length);
        for (int c = 0; c < m.purses.length; c++) {
            int customer = c;
            addLook(looks, "purse " + c, () -> shop().purse(customer), m.purses[c]);
        }
        int idle = 0;
        for (int i = 0; i < m.flights.length; i++) {
            int owl = i;
            Model.Flight f = m.flights[i];
            boolean outward = f != null && f.arrival > m.day;
            idle += f == null ? 1 : 0;
            int days = f == null ? 0 : (outward ? f.arrival : f.home) - m.day;
            addLook(looks, "owlDays", () -> shop().owlDays(owl), days);
            addLook(looks, "owlCoins", () -> shop().owlCoins(owl), outward ? f.coins : 0);
        }
        addLook(looks, "idleOwls", () -> shop().idleOwls(), idle);
        addLook(looks, "handledRequests", () -> shop().handledRequests(), m.handled);
        addLook(looks, "refundTotal", () -> shop().refundTotal(), m.refunds);
        addLook(looks, "contradictions", () -> shop().contradictions(), 0);
    }

    private void addHappenings(List<Runnable> looks) {
        Model.State m = model.state;
        int liveliest = 0;
        int most = -1;
        for (int p = 0; p < model.facts.places.size(); p++) {
            int place = p;
            int all = 0;
            for (int e = 0; e < model.facts.events.size(); e++) {
                int event = e;
                String what = e + " " + p + " ";
                int times = (int) m.happened.stream().filter(h -> h.startsWith(what)).count();
                addLook(looks, "timesHappened", () -> shop().timesHappened(event, place), times);
                int day = Math.max(0, m.day - random.nextInt(4));
                looks.add(() -> Checks.due(run + ": hasHappened", shop().hasHappened(event, place, day),
                    m.happened.contains(what + day)));
                all += times;
            }
            if (all > most) {
                most = all;
                liveliest = p;
            }
        }
        addLook(looks, "liveliestPlace", () -> shop().liveliestPlace(), liveliest);
    }

    private void addFigures(List<Runnable> looks) {
        Model.State m = model.state;
        int[] counts = new int[4];
        double prices = 0;
        for (Model.Sold want : m.sold) {
            for (int state = 0; state < 4; state++) {
                counts[state] += want.state.equals(STATES[state]) ? 1 : 0;
            }
            prices += want.price;
        }
        for (int i = 0; i < 4; i++) {
            int state = i;
            addLook(looks, "countIn " + i, () -> shop().countIn(state), counts[i]);
        }
        int decided = counts[1] + counts[2] + counts[3];
        float truth = decided == 0 ? 0f : (float) counts[1] / (float) decided;
        double mean = m.sold.isEmpty() ? 0.0 : prices / m.sold.size();
        looks.add(() -> Checks.due(run + ": truthShare", shop().truthShare(), truth));
        looks.add(() -> Checks.due(run + ": meanPrice", shop().meanPrice(), mean));
        String queue = m.queue.toString().replaceAll("[\\[\\] ]", "");
        looks.add(() -> {
            Checks.due(run + ": writeQueue", shop().writeQueue(), queue.length());
            calls += queue.length() + 1;
            Checks.due(run + ": the queue", Checks.output(shop), queue);
        });
        addLook(looks, "queueLength", () -> shop().queueLength(), m.queue.size());
        addLook(looks, "prophecyCount", () -> shop().prophecyCount(), m.sold.size());
        int days = random.nextInt(10) == 0 ? 300 : random.nextInt(20);
        looks.add(() -> Checks.due(run + ": cashAfter " + days, shop().cashAfter(days), cashAfter(days)));
    }

    private void addProphecy(List<Runnable> looks, int p, Model.Sold want) {
        addLook(looks, "customerOf", () -> shop().customerOf(p), want.customer);
        addLook(looks, "eventOf", () -> shop().eventOf(p), want.event);
        addLook(looks, "placeOf", () -> shop().placeOf(p), want.place);
        looks.add(() -> Checks.due(run + ": isDenial", shop().isDenial(p), want.kind.equals("never")));
        addLook(looks, "firstDay", () -> shop().firstDay(p), want.first);
        addLook(looks, "lastDay", () -> shop().lastDay(p), want.last);
        looks.add(() -> Checks.due(run + ": stateOf", STATES[shop().stateOf(p)], want.state));
        boolean open = want.state.equals("open");
        looks.add(() -> Checks.due(run + ": decidedOn", answer(() -> shop().decidedOn(p)),
            open ? "NoSuchElementException" : Integer.toString(want.decided)));
        addLook(looks, "refundOf", () -> shop().refundOf(p), model.state.refund(want));
        addLook(looks, "placeInQueue", () -> shop().placeInQueue(p), new ArrayList<>(model.state.queue).indexOf(p));
        addLook(looks, "answerFor", () -> shop().answerFor(p), want.answer);
        addLook(looks, "expectedAnswer", () -> shop().expectedAnswer(p), model.state.expected(want));
        addLook(looks, "daysUntilDecided", () -> shop().daysUntilDecided(p),
            open ? want.last + 1 - model.state.day : 0);
        looks.add(() -> Checks.due(run + ": daysUntilRefunded", shop().daysUntilRefunded(p), daysUntilRefunded(p)));
        String written = model.facts.customers.get(want.customer) + (want.kind.equals("never") ? ":!" : ":")
            + model.facts.events.get(want.event) + "@" + (want.place < 0 ? "*" : model.facts.places.get(want.place))
            + " " + want.first + "-" + want.last;
        looks.add(() -> {
            Checks.due(run + ": writeProphecy", shop().writeProphecy(p), written.length());
            calls += written.length() + 1;
            Checks.due(run + ": the prophecy", Checks.output(shop), written);
        });
    }

    private int cashAfter(int days) {
        Model.State m = model.again();
        for (int day = 0; day < days; day++) {
            m.pass();
        }
        return m.cash;
    }

    private int daysUntilRefunded(int p) {
        Model.State m = model.again();
        for (int day = 0; day <= 300; day++) {
            if (m.sold.get(p).state.equals("refunded")) {
                return day;
            }
            m.pass();
        }
        return -1;
    }

    // ---- random texts

    private static final String[] NAMES = {"a", "b", "rain", "war", "inn", "mill", "zz", "event", "abcdef"};
    private static final String[] PIECES = {"", " ", ";", "(", ")", "0", "7", "99999", "x", "rain", "abcdefg", "sell",
        "event", "place", "customer c 1 1;", "owl 1;", "pass 1;", "repeat 2 (", "!", "\u00e9", "\n", "\t"};

    private String setup() {
        StringBuilder s = new StringBuilder("shop " + random.nextInt(300) + " " + (1 + random.nextInt(4)) + " "
            + random.nextInt(12) + " " + random.nextInt(201) + " " + random.nextInt(201) + ";");
        for (int i = 0, n = 1 + few(7); i < n; i++) {
            s.append("event ").append(NAMES[(i * 2 + n) % NAMES.length]).append(";");
        }
        for (int i = 0, n = 1 + few(7); i < n; i++) {
            s.append(" place ").append(NAMES[(i * 4 + n) % NAMES.length]).append(" ;");
        }
        for (int i = 0, n = few(9); i < n; i++) {
            s.append("\ncustomer ").append(NAMES[(i + n) % NAMES.length]).append(' ').append(random.nextInt(500));
            s.append(' ').append(1 + random.nextInt(30)).append(";");
        }
        for (int i = 0, n = few(6); i < n; i++) {
            s.append("owl ").append(1 + random.nextInt(9)).append(";");
        }
        return s.toString();
    }

    private int few(int most) {
        return random.nextInt(8) == 0 ? most : random.nextInt(Math.min(most, 5));
    }

    private String script(int depth) {
        StringBuilder s = new StringBuilder();
        int count = random.nextInt(30) == 0 ? 31 : random.nextInt(5);
        for (int i = 0; i < count; i++) {
            s.append(command(depth)).append(';').append(random.nextBoolean() ? " " : "");
        }
        return s.toString();
    }

    private String command(int depth) {
        switch (random.nextInt(depth < 2 || random.nextInt(10) == 0 ? 9 : 7)) {
            case 0: return "pass " + (1 + random.nextInt(5));
            case 1: case 2: return "ask " + random.nextInt(Math.min(24, model.state.sold.size() + 2));
            case 3: return "happen " + name(model.facts.events) + " " + name(model.facts.places);
            case 4: return "sell " + name(model.facts.customers) + " plain " + name(model.facts.events) + " "
                + name(model.facts.places) + sale();
            case 5: return "sell " + name(model.facts.customers) + " vague " + name(model.facts.events) + sale();
            case 6: return "sell " + name(model.facts.customers) + " never " + name(model.facts.events) + " "
                + name(model.facts.places) + sale();
            default: return "repeat " + random.nextInt(5) + " (" + script(depth + 1) + ")";
        }
    }

    private String sale() {
        return " " + random.nextInt(4) + " " + (1 + random.nextInt(6)) + " " + (1 + random.nextInt(30));
    }

    private String name(java.util.List<String> names) {
        return names.isEmpty() || random.nextInt(60) == 0 ? "nobody" : names.get(random.nextInt(names.size()));
    }

    /** Now and then the text with a piece cut out or put in. */
    private String spoiled(String text) {
        if (random.nextInt(3) != 0) {
            return text;
        }
        int from = random.nextInt(text.length() + 1);
        int to = Math.min(text.length(), from + (random.nextBoolean() ? 0 : random.nextInt(6)));
        return text.substring(0, from) + PIECES[random.nextInt(PIECES.length)] + text.substring(to);
    }
}
