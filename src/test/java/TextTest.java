import java.lang.reflect.Constructor;
import java.lang.reflect.Field;
import java.lang.reflect.Method;
import java.lang.reflect.Modifier;
import java.util.Arrays;
import java.util.TreeSet;

/** The face of the class, and promises 1 (new object), 2 (append), 3 (truncate) and 13 (findCustomer). */
public final class TextTest {
    private static final int NONE = ProphecyShop.NONE;

    public static void main(String[] args) {
        face();
        newObject();
        append();
        appendTooMuch();
        truncate();
        findCustomer();
        Checks.end("TextTest");
    }

    private static void face() {
        TreeSet<String> methods = new TreeSet<>();
        for (Method m : ProphecyShop.class.getDeclaredMethods()) {
            if (!Modifier.isPrivate(m.getModifiers()) && !m.isSynthetic()) {
                Checks.due("face: " + m.getName() + " is public and no more", m.getModifiers(), Modifier.PUBLIC);
                methods.add(m.getName() + "/" + m.getParameterCount() + " " + m.getReturnType());
            }
        }
        TreeSet<String> want = new TreeSet<>(Arrays.asList("append/5 int", "truncate/1 int", "load/0 int",
            "runScript/0 int", "errorCode/0 int", "errorPosition/0 int", "day/0 int", "cash/0 int",
            "eventCount/0 int", "placeCount/0 int", "customerCount/0 int", "findCustomer/0 int", "purse/1 int",
            "timesHappened/2 int", "hasHappened/3 boolean", "liveliestPlace/0 int", "prophecyCount/0 int",
            "customerOf/1 int", "eventOf/1 int", "placeOf/1 int", "isDenial/1 boolean", "firstDay/1 int",
            "lastDay/1 int", "stateOf/1 int", "decidedOn/1 int", "refundOf/1 int", "queueLength/0 int",
            "placeInQueue/1 int", "answerFor/1 int", "expectedAnswer/1 int", "idleOwls/0 int", "owlDays/1 int",
            "owlCoins/1 int", "countIn/1 int", "handledRequests/0 int", "refundTotal/0 int", "truthShare/0 float",
            "meanPrice/0 double", "contradictions/0 int", "daysUntilDecided/1 int", "daysUntilRefunded/1 int",
            "cashAfter/1 int", "sellPlain/6 int", "sellVague/5 int", "sellDenial/6 int", "happen/2 int",
            "ask/1 int", "advance/1 int", "writeProphecy/1 int", "writeQueue/0 int", "outputByte/1 int",
            "undoCount/0 int", "undo/0 int", "save/1 int", "restore/1 int"));
        Checks.due("face: methods", methods.toString(), want.toString());
        faceFields();
        Constructor<?>[] constructors = ProphecyShop.class.getDeclaredConstructors();
        Checks.due("face: constructors", constructors.length, 1);
        Checks.due("face: class", ProphecyShop.class.getModifiers(), Modifier.PUBLIC | Modifier.FINAL);
    }

    private static void faceFields() {
        TreeSet<String> fields = new TreeSet<>();
        for (Field f : ProphecyShop.class.getDeclaredFields()) {
            if (!Modifier.isPrivate(f.getModifiers()) && !f.isSynthetic()) {
                Checks.due("face: " + f.getName(), f.getModifiers(),
                    Modifier.PUBLIC | Modifier.STATIC | Modifier.FINAL);
                fields.add(f.getName() + " " + f.getType());
            }
        }
        TreeSet<String> want = new TreeSet<>();
        for (String name : ("NONE SYNTAX OUT_OF_RANGE WRONG_NAME TOO_MANY OPEN FULFILLED FAILED REFUNDED NO_ANSWER "
                + "PAID STILL_OPEN IS_FULFILLED ALREADY_PAID TOO_LATE NO_CASH").split(" ")) {
            want.add(name + " int");
        }
        Checks.due("face: constants", fields.toString(), want.toString());
    }

    private static void newObject() {
        ProphecyShop s = new ProphecyShop();
        Checks.due("1: day", s.day(), 0);
        Checks.due("1: cash", s.cash(), 100);
        Checks.due("1: events", s.eventCount(), 2);
        Checks.due("1: places", s.placeCount(), 3);
        Checks.due("1: customers", s.customerCount(), 3);
        Checks.due("1: purse of ada", s.purse(0), 80);
        Checks.due("1: purse of ben", s.purse(1), 300);
        Checks.due("1: purse of cai", s.purse(2), 20);
        Checks.due("1: owls", s.idleOwls(), 2);
        Checks.due("1: prophecies", s.prophecyCount(), 0);
        Checks.due("1: queue", s.queueLength(), 0);
        Checks.due("1: undo", s.undoCount(), 0);
        Checks.due("1: text is empty", s.append(0, 0, 0, 0, 0), 0);
        Checks.due("1: output is empty", s.outputByte(0), NONE);
        Checks.due("1: no error", s.errorCode(), 0);
        Checks.due("1: no error position", s.errorPosition(), NONE);
        Checks.refused("1: slot 0 is empty", s, java.util.NoSuchElementException.class, () -> s.restore(0));
        Checks.refused("1: slot 1 is empty", s, java.util.NoSuchElementException.class, () -> s.restore(1));
        firstNamesAndFlights();
    }

    private static void firstNamesAndFlights() {
        ProphecyShop s = new ProphecyShop();
        int done = Checks.script(s, "sell ada plain rain inn 0 1 1; sell ben vague war 0 1 2;"
            + "sell cai never war mill 0 2 20; sell ada plain rain pass 0 1 10;"
            + "happen war mill; pass 1; ask 2; ask 0; pass 1;");
        Checks.due("1: the names of the first setup", done, 9);
        Checks.due("1: cai lives 15 away, owl 0 has speed 3", s.owlDays(0), 5);
        Checks.due("1: ada lives 4 away, owl 1 has speed 5", s.owlDays(1), 1);
        Checks.due("1: full refund of a denial", s.owlCoins(0), 20);
        Checks.due("1: half refund of a vague one", s.refundOf(1), 1);
    }

    private static void append() {
        ProphecyShop s = new ProphecyShop();
        // "ada", spread over all parameters, zeros between.
        Checks.due("2: zeros are left out", s.append(0x61000000, 0x00640000, 0, 0x00006100, 0), 3);
        Checks.due("2: the order of bytes", s.findCustomer(), 0);
        Checks.due("2: nothing appended", s.append(0, 0, 0, 0, 0), 3);
        s.truncate(0);
        Checks.due("2: most significant byte first", s.append(0x62656e00, 0, 0, 0, 0), 3);
        Checks.due("2: ben", s.findCustomer(), 1);
        s.truncate(0);
        Checks.due("2: the last byte of the last parameter", s.append(0, 0, 0, 0x00006361, 0x00000069), 3);
        Checks.due("2: cai", s.findCustomer(), 2);
        s.truncate(0);
        Checks.due("2: twenty bytes, negative ints too", s.append(-1, -1, -1, -1, -1), 20);
        Checks.due("2: bytes above 127 are no letters", s.load(), ProphecyShop.SYNTAX);
        Checks.due("2: parameters in order", order(), 0);
    }

    private static int order() {
        ProphecyShop s = new ProphecyShop();
        // "shop" " 1 1" " 1 1" " 1;e" "vent", then the rest of a setup.
        s.append(0x73686f70, 0x20312031, 0x20312031, 0x20313b65, 0x76656e74);
        Checks.put(s, " a;place b;");
        return s.load();
    }

    private static void appendTooMuch() {
        ProphecyShop s = new ProphecyShop();
        for (int i = 1; i <= 39; i++) {
            Checks.due("2: length", s.append(-1, -1, -1, -1, -1), 20 * i);
        }
        s.append(-1, -1, -1, -1, 0x01010100);
        Checks.due("2: 799 bytes", s.append(0, 0, 0, 0, 0), 799);
        Checks.badState("2: 801 bytes", s, () -> s.append(1, 0, 0, 0, 1));
        Checks.badState("2: 819 bytes", s, () -> s.append(-1, -1, -1, -1, -1));
        Checks.due("2: exactly 800 bytes", s.append(0, 0, 0x00010000, 0, 0), 800);
        Checks.due("2: no more, but nothing is fine", s.append(0, 0, 0, 0, 0), 800);
        for (int at = 0; at < 5; at++) {
            int p = at;
            Checks.due("2: a byte too much in parameter " + p, Checks.nameOfThrown(() -> s.append(p == 0 ? 1 : 0,
                p == 1 ? 256 : 0, p == 2 ? 65536 : 0, p == 3 ? 1 << 24 : 0, p == 4 ? -128 << 24 : 0)),
                "IllegalStateException");
        }
        Checks.due("2: the text is as long as before", s.truncate(0), 800);
    }

    private static void truncate() {
        ProphecyShop s = new ProphecyShop();
        Checks.due("3: empty to empty", s.truncate(0), 0);
        Checks.badArgument("3: longer than an empty text", s, () -> s.truncate(1));
        Checks.put(s, "adam");
        Checks.badArgument("3: longer", s, () -> s.truncate(5));
        Checks.badArgument("3: negative", s, () -> s.truncate(-1));
        Checks.badArgument("3: far too long", s, () -> s.truncate(Integer.MAX_VALUE));
        Checks.badArgument("3: far too short", s, () -> s.truncate(Integer.MIN_VALUE));
        Checks.due("3: same length", s.truncate(4), 0);
        Checks.due("3: not ada yet", s.findCustomer(), NONE);
        Checks.due("3: one removed", s.truncate(3), 1);
        Checks.due("3: the end was removed", s.findCustomer(), 0);
        Checks.due("3: not a change", s.undoCount(), 0);
        Checks.due("3: all removed", s.truncate(0), 3);
        Checks.due("3: empty", s.append(0, 0, 0, 0, 0), 0);
    }

    private static void findCustomer() {
        ProphecyShop s = Checks.loaded("shop 1 1 1 1 1;event abcdef;place abcdef;customer abcdef 1 1;"
            + "customer b 1 1;customer zzzzzz 1 1;customer a 1 1;customer aa 1 1;");
        String[] texts = {"abcdef", "b", "zzzzzz", "a", "aa", "", "abcde", "abcdefg", "abcdefghijkl", " b", "b ",
            "c", "aaa", "B", "b1", "ab", "\u00e9", "b;", "zzzzzzz", "aaaaaa", "dabcdef", "`a", "{", "`"};
        int[] want = {0, 1, 2, 3, 4, NONE, NONE, NONE, NONE, NONE, NONE,
            NONE, NONE, NONE, NONE, NONE, NONE, NONE, NONE, NONE, NONE, NONE, NONE, NONE};
        for (int i = 0; i < texts.length; i++) {
            s.truncate(0);
            Checks.put(s, texts[i]);
            Checks.due("13: customer " + texts[i], s.findCustomer(), want[i]);
            Checks.due("13: the text stays", s.append(0, 0, 0, 0, 0), texts[i].length());
        }
        ProphecyShop nobody = Checks.loaded("shop 1 1 1 1 1;event ada;place ada;");
        Checks.due("13: nobody, empty text", nobody.findCustomer(), NONE);
        Checks.put(nobody, "ada");
        Checks.due("13: an event is no customer", nobody.findCustomer(), NONE);
    }
}
