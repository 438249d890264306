import java.lang.reflect.InvocationTargetException;
import java.lang.reflect.Method;
import java.lang.reflect.Modifier;
import java.util.ArrayList;
import java.util.Arrays;
import java.util.Comparator;
import java.util.HashMap;
import java.util.List;
import java.util.Map;
import java.util.Random;

/**
 * Random calls with any arguments, the extreme ones too: a call throws nothing but what the document lists for it, and
 * no exception comes from the machine or from a library.
 */
public final class AnyCallTest {
    private static final int RUNS = 2000;
    private static final int CALLS = 512;
    private static final int[] EXTREMES = {Integer.MIN_VALUE, Integer.MIN_VALUE + 1, -10000, -256, -2, -1, 9, 23, 24, 25,
        31, 59, 60, 61, 99, 100, 300, 301, 512, 800, 801, 999, 1000, 9999, 10000, 65536, 16777216,
        Integer.MAX_VALUE - 1, Integer.MAX_VALUE};
    private static final String[] TEXTS = {"ada", Shops.LARGEST, Shops.SMALLEST, Shops.SINGLE,
        "shop 9 1 0 200 200;event a;place b;customer c 9999 30;customer d 9999 1;owl 1;owl 9;",
        "repeat 20(repeat 20(pass 60;););", "repeat 5(sell ben vague rain 0 1 9;ask 0;pass 2;);happen rain inn;",
        "repeat 9(sell m never a g 0 9 40;happen a g;ask 0;ask 1;ask 2;pass 1;);", "repeat 1(repeat 1(repeat 1(",
        "repeat 20(" + "repeat 20();".repeat(29) + ");", "pass 1;".repeat(31), "sell c plain a b 99 60 999;pass 60",
        "ask 99999999999999999999999999999999;", "sell abcdefghijklmnopqrstuvwxyz", ")", "(", ";", "\u00ff", "\t",
        " ".repeat(796) + "pass", " ".repeat(787) + "happen rain a"};
    private static final Method[] METHODS = methods();
    private static final Map<String, List<Class<?>>> LISTED = listed();

    private final Random random;
    private final String run;
    private final ProphecyShop shop = new ProphecyShop();
    private int calls = 0;

    private AnyCallTest(int seed) {
        random = new Random(seed);
        run = "seed " + seed;
    }

    public static void main(String[] args) throws IllegalAccessException {
        for (Method method : METHODS) {
            Checks.due("face: " + method.getName() + " throws", names(Arrays.asList(method.getExceptionTypes())),
                names(listedFor(method)));
        }
        for (int seed = 0; seed < RUNS; seed++) {
            new AnyCallTest(seed).run();
        }
        Checks.end("AnyCallTest");
    }

    private void run() throws IllegalAccessException {
        while (calls < CALLS) {
            if (random.nextInt(15) == 0) {
                putText();
            } else {
                Method method = METHODS[random.nextInt(METHODS.length)];
                call(method, arguments(method.getParameterCount()));
            }
        }
    }

    /** A text, now and then behind what else stands in the buffer, which may have no room for it. */
    private void putText() {
        String text = TEXTS[random.nextInt(TEXTS.length)];
        int needed = (text.length() + 19) / 20 + 2;
        if (calls + needed > CALLS) {
            calls = CALLS;
            return;
        }
        calls += needed;
        if (random.nextInt(4) != 0) {
            shop.truncate(0);
        }
        try {
            Checks.put(shop, text);
        } catch (IllegalStateException e) {
            Checks.due(run + ": a full buffer", shop.append(0, 0, 0, 0, 0) + 20 > 800, true);
        }
    }

    private Object[] arguments(int count) {
        Object[] arguments = new Object[count];
        int wild = random.nextInt(3);
        for (int i = 0; i < count; i++) {
            boolean extreme = wild > 0 && random.nextInt(wild * 2) == 0;
            arguments[i] = extreme ? anyNumber() : random.nextInt(4);
        }
        return arguments;
    }

    private int anyNumber() {
        return random.nextInt(4) == 0 ? random.nextInt() : EXTREMES[random.nextInt(EXTREMES.length)];
    }

    private void call(Method method, Object[] arguments) throws IllegalAccessException {
        calls++;
        try {
            method.invoke(shop, arguments);
        } catch (InvocationTargetException e) {
            Throwable thrown = e.getCause();
            String what = run + ": " + method.getName() + Arrays.toString(arguments) + " throws " + thrown;
            Checks.due(what + ", which is listed", listedFor(method).contains(thrown.getClass()), true);
            StackTraceElement[] trace = thrown.getStackTrace();
            boolean own = trace.length > 0 && trace[0].getClassName().startsWith("ProphecyShop");
            Checks.due(what + ", which the class throws itself", own, true);
        }
    }

    // ---- what the document lists

    private static List<Class<?>> listedFor(Method method) {
        return LISTED.getOrDefault(method.getName(), new ArrayList<>());
    }

    private static Map<String, List<Class<?>>> listed() {
        Class<?> index = IndexOutOfBoundsException.class;
        Class<?> argument = IllegalArgumentException.class;
        Class<?> state = IllegalStateException.class;
        Class<?> element = java.util.NoSuchElementException.class;
        Map<String, List<Class<?>>> listed = new HashMap<>();
        put(listed, "purse timesHappened hasHappened customerOf eventOf placeOf isDenial firstDay lastDay stateOf "
            + "refundOf placeInQueue answerFor expectedAnswer owlDays owlCoins daysUntilDecided daysUntilRefunded "
            + "writeProphecy save", index);
        put(listed, "decidedOn restore", index, element);
        put(listed, "sellPlain sellVague sellDenial", index, argument, state);
        put(listed, "happen ask", index, state);
        put(listed, "advance", argument, state);
        put(listed, "append undo", state);
        put(listed, "truncate countIn cashAfter", argument);
        return listed;
    }

    private static void put(Map<String, List<Class<?>>> listed, String methods, Class<?>... exceptions) {
        for (String method : methods.split(" ")) {
            listed.put(method, Arrays.asList(exceptions));
        }
    }

    private static String names(List<Class<?>> classes) {
        StringBuilder names = new StringBuilder();
        for (Class<?> each : classes) {
            names.append(each.getSimpleName()).append(' ');
        }
        return names.toString();
    }

    /** The public methods, in an order that does not depend on the machine. */
    private static Method[] methods() {
        List<Method> methods = new ArrayList<>();
        for (Method method : ProphecyShop.class.getDeclaredMethods()) {
            if (Modifier.isPublic(method.getModifiers())) {
                methods.add(method);
            }
        }
        methods.sort(Comparator.comparing(Method::getName));
        return methods.toArray(new Method[0]);
    }
}
