import java.nio.charset.StandardCharsets;

/** What the tests share: comparing answers, and putting texts into a shop. */
final class Checks {
    /** A call that may throw. */
    interface Call {
        void run();
    }

    private static int wrong = 0;

    private Checks() {
    }

    static void due(String what, long got, long want) {
        if (got != want) {
            report(what, Long.toString(got), Long.toString(want));
        }
    }

    static void due(String what, double got, double want) {
        if (Double.compare(got, want) != 0) {
            report(what, Double.toString(got), Double.toString(want));
        }
    }

    static void due(String what, boolean got, boolean want) {
        if (got != want) {
            report(what, Boolean.toString(got), Boolean.toString(want));
        }
    }

    static void due(String what, String got, String want) {
        if (!got.equals(want)) {
            report(what, got, want);
        }
    }

    /** The call throws exactly this exception, and the shop stays as it was. */
    static void refused(String what, ProphecyShop shop, Class<? extends RuntimeException> want, Call call) {
        String before = View.of(shop);
        String got = nameOfThrown(call);
        due(what + " throws", got, want.getSimpleName());
        due(what + " changes nothing", View.of(shop), before);
    }

    static void missing(String what, ProphecyShop shop, Call call) {
        refused(what, shop, IndexOutOfBoundsException.class, call);
    }

    static void badArgument(String what, ProphecyShop shop, Call call) {
        refused(what, shop, IllegalArgumentException.class, call);
    }

    static void badState(String what, ProphecyShop shop, Call call) {
        refused(what, shop, IllegalStateException.class, call);
    }

    static String nameOfThrown(Call call) {
        try {
            call.run();
            return "nothing";
        } catch (RuntimeException e) {
            return e.getClass().getSimpleName();
        }
    }

    /** Appends the characters, of which none is 0, as bytes. */
    static void put(ProphecyShop shop, String text) {
        byte[] bytes = text.getBytes(StandardCharsets.ISO_8859_1);
        for (int i = 0; i < bytes.length; i += 20) {
            shop.append(four(bytes, i), four(bytes, i + 4), four(bytes, i + 8),
                four(bytes, i + 12), four(bytes, i + 16));
        }
    }

    private static int four(byte[] bytes, int from) {
        int value = 0;
        for (int i = from; i < from + 4; i++) {
            value = value << 8 | (i < bytes.length ? bytes[i] & 255 : 0);
        }
        return value;
    }

    static ProphecyShop loaded(String setup) {
        ProphecyShop shop = new ProphecyShop();
        put(shop, setup);
        due("load of " + setup, shop.load(), 0);
        return shop;
    }

    static int script(ProphecyShop shop, String script) {
        put(shop, script);
        return shop.runScript();
    }

    static String output(ProphecyShop shop) {
        StringBuilder text = new StringBuilder();
        for (int i = 0; shop.outputByte(i) != ProphecyShop.NONE; i++) {
            text.append((char) shop.outputByte(i));
        }
        return text.toString();
    }

    private static void report(String what, String got, String want) {
        wrong++;
        System.out.println(what + ": answered " + got + ", due is " + want);
    }

    /** To be called at the end of each main method. */
    static void end(String test) {
        System.out.println(test + ": " + (wrong == 0 ? "all answers are as due" : wrong + " answers are wrong"));
        if (wrong != 0) {
            System.exit(1);
        }
    }
}
