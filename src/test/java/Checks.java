import java.nio.charset.StandardCharsets;
import java.util.NoSuchElementException;
import java.util.function.Consumer;
import java.util.function.Supplier;

/** What the tests share: comparing answers, and putting texts into a shop. */
final class Checks {
    /** A call that may throw. */
    interface Call {
        void run();
    }

    private static int wrong = 0;

    private Checks() {
    }

    static void due(String what, long got, long want) {
        if (got != want) {
            report(what, Long.toString(got), Long.toString(want));
        }
    }

    static void due(String what, double got, double want) {
        if (Double.compare(got, want) != 0) {
            report(what, Double.toString(got), Double.toString(want));
        }
    }

    static void due(String what, boolean got, boolean want) {
        if (got != want) {
            report(what, Boolean.toString(got), Boolean.toString(want));
        }
    }

    static void due(String what, String got, String want) {
        if (!got.equals(want)) {
            report(what, got, want);
        }
    }

    /** The call throws exactly this exception, and the shop stays as it was. */
    static void refused(String what, ProphecyShop shop, Class<? extends RuntimeException> want, Call call) {
        String before = View.of(shop);
        String got = nameOfThrown(call);
        due(what + " throws", got, want.getSimpleName());
        due(what + " changes nothing", View.of(shop), before);
    }

    static void missing(String what, ProphecyShop shop, Call call) {
        refused(what, shop, IndexOutOfBoundsException.class, call);
    }

    static void badArgument(String what, ProphecyShop shop, Call call) {
        refused(what, shop, IllegalArgumentException.class, call);
    }

    static void badState(String what, ProphecyShop shop, Call call) {
        refused(what, shop, IllegalStateException.class, call);
    }

    /**
     * The call throws exactly this exception on a shop, and then nothing, down to the oldest change and the slots,
     * tells that shop from another one that was made in the same way.
     */
    static void refused(String what, Supplier<ProphecyShop> made, Class<? extends RuntimeException> want,
            Consumer<ProphecyShop> call) {
        ProphecyShop shop = made.get();
        due(what + " throws", nameOfThrown(() -> call.accept(shop)), want.getSimpleName());
        due(what + " changes nothing", View.ofAll(shop), View.ofAll(made.get()));
    }

    static void missing(String what, Supplier<ProphecyShop> made, Consumer<ProphecyShop> call) {
        refused(what, made, IndexOutOfBoundsException.class, call);
    }

    static void badArgument(String what, Supplier<ProphecyShop> made, Consumer<ProphecyShop> call) {
        refused(what, made, IllegalArgumentException.class, call);
    }

    static void badState(String what, Supplier<ProphecyShop> made, Consumer<ProphecyShop> call) {
        refused(what, made, IllegalStateException.class, call);
    }

    static void noSuchElement(String what, Supplier<ProphecyShop> made, Consumer<ProphecyShop> call) {
        refused(what, made, NoSuchElementException.class, call);
    }

    static String nameOfThrown(Call call) {
        try {
            call.run();
            return "nothing";
        } catch (RuntimeException e) {
            return e.getClass().getSimpleName();
        }
    }

    /** Appends the characters, of which none is 0, as bytes. */
    static void put(ProphecyShop shop, String text) {
        byte[] bytes = text.getBytes(StandardCharsets.ISO_8859_1);
        for (int i = 0; i < bytes.length; i += 20) {
            shop.append(four(bytes, i), four(bytes, i + 4), four(bytes, i + 8),
                four(bytes, i + 12), four(bytes, i + 16));
        }
    }

    private static int four(byte[] bytes, int from) {
        int value = 0;
        for (int i = from; i < from + 4; i++) {
            value = value << 8 | (i < bytes.length ? bytes[i] & 255 : 0);
        }
        return value;
    }

    static ProphecyShop loaded(String setup) {
        ProphecyShop shop = new ProphecyShop();
        put(shop, setup);
        due("load of " + setup, shop.load(), 0);
        return shop;
    }

    /** A shop that lived through a script, which must be free of errors. */
    static ProphecyShop after(String script) {
        ProphecyShop shop = new ProphecyShop();
        due("no error in " + script, script(shop, script) != ProphecyShop.NONE, true);
        return shop;
    }

    static int script(ProphecyShop shop, String script) {
        put(shop, script);
        return shop.runScript();
    }

    static String output(ProphecyShop shop) {
        StringBuilder text = new StringBuilder();
        int got = shop.outputByte(0);
        for (int i = 1; got != ProphecyShop.NONE && i <= 100; i++) {
            text.append((char) got);
            got = shop.outputByte(i);
        }
        return text.toString();
    }

    private static void report(String what, String got, String want) {
        wrong++;
        System.out.println(what + ": answered " + got + ", due is " + want);
    }

    /** To be called at the end of each main method. */
    static void end(String test) {
        System.out.println(test + ": " + (wrong == 0 ? "all answers are as due" : wrong + " answers are wrong"));
        if (wrong != 0) {
            System.exit(1);
        }
    }
}
