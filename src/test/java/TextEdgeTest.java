import java.util.function.Supplier;

/** The edges of promises 1, 2, 3 and 13, and of what the document says of constants and of the number of calls. */
public final class TextEdgeTest {
    private static final int NONE = ProphecyShop.NONE;

    public static void main(String[] args) {
        constants();
        newObjectIsItsSetup();
        newObjectAtTheCounter();
        newObjectIsEmpty();
        eachByteOfAppend();
        eachPlaceOfAppend();
        appendAtTheLimit();
        refusedAppendLeavesTheText();
        truncateAtTheEdges();
        truncateAndAppend();
        findCustomer();
        findCustomerInFullText();
        lastOf512Calls();
        Checks.end("TextEdgeTest");
    }

    private static void constants() {
        int[] got = {ProphecyShop.NONE, ProphecyShop.SYNTAX, ProphecyShop.OUT_OF_RANGE, ProphecyShop.WRONG_NAME,
            ProphecyShop.TOO_MANY, ProphecyShop.OPEN, ProphecyShop.FULFILLED, ProphecyShop.FAILED,
            ProphecyShop.REFUNDED, ProphecyShop.NO_ANSWER, ProphecyShop.PAID, ProphecyShop.STILL_OPEN,
            ProphecyShop.IS_FULFILLED, ProphecyShop.ALREADY_PAID, ProphecyShop.TOO_LATE, ProphecyShop.NO_CASH};
        int[] want = {-1, 1, 2, 3, 4, 0, 1, 2, 3, 0, 1, 2, 3, 4, 5, 6};
        for (int i = 0; i < want.length; i++) {
            Checks.due("face: constant " + i, got[i], want[i]);
        }
    }

    // ---- promise 1

    private static void newObjectIsItsSetup() {
        Supplier<ProphecyShop> loaded = () -> Checks.loaded("shop 100 2 5 100 50; event rain; event war; place inn;"
            + " place mill; place pass; customer ada 80 4; customer ben 300 9; customer cai 20 15; owl 3; owl 5;");
        Checks.due("1: as of its setup", View.ofAll(new ProphecyShop()), View.ofAll(loaded.get()));
        String[] scripts = {"sell ada plain rain inn 0 1 80; sell ben never war mill 0 1 300;"
            + "sell cai vague war 0 1 20; happen war mill; ask 0; ask 1; pass 1; ask 2;",
            "pass 1;", "pass 1;", "pass 1;", "pass 1;", "pass 1;"};
        ProphecyShop s = new ProphecyShop();
        ProphecyShop t = loaded.get();
        for (String script : scripts) {
            Checks.due("1: " + script, Checks.script(s, script), Checks.script(t, script));
        }
        Checks.due("1: it goes on as of its setup", View.ofAll(s), View.ofAll(t));
        String[] names = {"ada:rain@inn 0-0", "ben:war@mill 0-0", "cai:!war@pass 0-0"};
        ProphecyShop named = Checks.after("sell ada plain rain inn 0 1 1; sell ben plain war mill 0 1 1;"
            + "sell cai never war pass 0 1 1;");
        for (int p = 0; p < names.length; p++) {
            named.writeProphecy(p);
            Checks.due("1: names", Checks.output(named), names[p]);
        }
    }

    private static void newObjectAtTheCounter() {
        String sales = "sell ben plain rain inn 0 1 10; sell ben plain rain inn 0 1 11; sell ben vague rain 0 1 13;";
        ProphecyShop s = Checks.after(sales + "ask 0; ask 1; ask 2;");
        Checks.due("1: two requests a day", s.advance(1), 2);
        Checks.due("1: owl 0 flies nine miles at speed three", s.owlDays(0), 3);
        Checks.due("1: owl 1 flies nine miles at speed five", s.owlDays(1), 2);
        Checks.due("1: full refund", s.owlCoins(1), 11);
        Checks.due("1: half a refund, rounded down", s.refundOf(2), 6);
        ProphecyShop inTime = Checks.after(sales + "pass 5; ask 0; pass 1;");
        Checks.due("1: grace of five days", inTime.answerFor(0), ProphecyShop.PAID);
        ProphecyShop late = Checks.after(sales + "pass 6; ask 0; pass 1;");
        Checks.due("1: no grace of six days", late.answerFor(0), ProphecyShop.TOO_LATE);
        ProphecyShop near = Checks.after("sell ada plain rain inn 0 1 1; sell cai plain rain inn 0 1 1; ask 0; ask 1;"
            + "pass 1;");
        Checks.due("1: owl 0 flies four miles", near.owlDays(0), 2);
        Checks.due("1: owl 1 flies fifteen miles", near.owlDays(1), 3);
    }

    private static void newObjectIsEmpty() {
        Checks.badArgument("1: the text is empty", ProphecyShop::new, s -> s.truncate(1));
        Checks.badState("1: nothing to undo", ProphecyShop::new, s -> s.undo());
        Checks.noSuchElement("1: slot 0 is empty", ProphecyShop::new, s -> s.restore(0));
        Checks.noSuchElement("1: slot 1 is empty", ProphecyShop::new, s -> s.restore(1));
        Checks.missing("1: no prophecy", ProphecyShop::new, s -> s.stateOf(0));
        Checks.missing("1: no third owl", ProphecyShop::new, s -> s.owlDays(2));
        ProphecyShop s = new ProphecyShop();
        Checks.due("1: an empty text is no setup", s.load(), ProphecyShop.SYNTAX);
        Checks.due("1: it ends too early", s.errorPosition(), 0);
        Checks.due("1: an empty text is a script", new ProphecyShop().runScript(), 0);
        Checks.due("1: the output is empty", s.outputByte(0), NONE);
        Checks.due("1: another object does not matter", new ProphecyShop().errorCode(), 0);
    }

    // ---- promise 2

    /** Bytes that are 0 are left out; every other byte counts. */
    private static void eachByteOfAppend() {
        for (int shift = 0; shift < 32; shift += 8) {
            ProphecyShop s = new ProphecyShop();
            for (int value = 0; value < 256; value++) {
                Checks.due("2: byte " + value + " << " + shift, s.append(0, 0, value << shift, 0, 0), value);
            }
            Checks.due("2: 255 of 256 are appended", s.truncate(0), 255);
        }
        ProphecyShop s = new ProphecyShop();
        Checks.due("2: nothing but zeros", s.append(0, 0, 0, 0, 0), 0);
        Checks.due("2: the least int has one byte", s.append(Integer.MIN_VALUE, 0, 0, 0, 0), 1);
        Checks.due("2: the greatest int has four", s.append(0, Integer.MAX_VALUE, 0, 0, 0), 5);
        Checks.due("2: -256 has three", s.append(0, 0, 0, 0, -256), 8);
    }

    /** The first parameter and the most significant byte come first, from each of the 20 places to the next. */
    private static void eachPlaceOfAppend() {
        for (int place = 0; place < 20; place++) {
            ProphecyShop s = Checks.loaded("shop 1 1 1 1 1;event a;place a;customer ba 1 1;customer a 1 1;"
                + "customer ab 1 1;");
            int[] four = new int[5];
            four[place / 4] |= 'a' << 24 - 8 * (place % 4);
            Checks.due("2: place " + place, s.append(four[0], four[1], four[2], four[3], four[4]), 1);
            Checks.due("2: letter at place " + place, s.findCustomer(), 1);
            for (int next = place + 1; next < 20; next++) {
                int[] both = four.clone();
                both[next / 4] |= 'b' << 24 - 8 * (next % 4);
                s.truncate(0);
                Checks.due("2: two bytes", s.append(both[0], both[1], both[2], both[3], both[4]), 2);
                Checks.due("2: place " + place + " before " + next, s.findCustomer(), 2);
            }
        }
    }

    private static ProphecyShop withText(int length) {
        ProphecyShop s = new ProphecyShop();
        Checks.put(s, "a".repeat(length));
        return s;
    }

    /** Appends so many bytes with one call. */
    private static int append(ProphecyShop s, int count) {
        int[] four = new int[5];
        for (int i = 0; i < count; i++) {
            // The zeros come first where there are any.
            int place = 20 - count + i;
            four[place / 4] |= 'b' << 24 - 8 * (place % 4);
        }
        return s.append(four[0], four[1], four[2], four[3], four[4]);
    }

    /** Throws IllegalStateException if the buffer would hold more than 800 bytes. */
    private static void appendAtTheLimit() {
        for (int count = 0; count <= 20; count++) {
            int bytes = count;
            ProphecyShop below = withText(799 - count);
            Checks.due("2: 799 bytes, " + count + " of them new", append(below, count), 799);
            ProphecyShop at = withText(800 - count);
            Checks.due("2: 800 bytes, " + count + " of them new", append(at, count), 800);
            Checks.due("2: full, and no byte more", append(at, 0), 800);
            Checks.due("2: as many bytes can be removed", at.truncate(0), 800);
            if (count > 0) {
                Checks.badState("2: 801 bytes, " + count + " of them new", () -> withText(801 - bytes),
                    s -> append(s, bytes));
                Checks.badState("2: a full buffer, and " + count, () -> withText(800), s -> append(s, bytes));
            }
        }
    }

    private static void refusedAppendLeavesTheText() {
        ProphecyShop s = new ProphecyShop();
        Checks.put(s, "pass 3;" + " ".repeat(791));
        Checks.badState("2: 801 bytes", s, () -> s.append(0, ' ' << 8, ' ' << 16, 0, '!' << 24));
        Checks.due("2: the same length", s.append(0, 0, 0, 0, 0), 798);
        Checks.due("2: the bytes in front are not put in either", s.runScript(), 1);
        Checks.due("2: the same text", s.day(), 3);
    }

    // ---- promise 3

    /** The new length is from 0 to the present length. */
    private static void truncateAtTheEdges() {
        int[] sizes = {0, 1, 2, 799, 800};
        for (int size : sizes) {
            int[] wrong = {-1, -2, size + 1, size + 2, Integer.MIN_VALUE, Integer.MIN_VALUE + size, Integer.MAX_VALUE};
            for (int length : wrong) {
                Checks.badArgument("3: from " + size + " to " + length, () -> withText(size), s -> s.truncate(length));
            }
            int[] right = {0, 1, size - 1, size};
            for (int length : right) {
                if (length >= 0 && length <= size) {
                    ProphecyShop s = withText(size);
                    Checks.due("3: from " + size + " to " + length, s.truncate(length), size - length);
                    Checks.due("3: the new length", s.append(0, 0, 0, 0, 0), length);
                    Checks.due("3: to the same length", s.truncate(length), 0);
                    Checks.badArgument("3: never longer again", s, () -> s.truncate(length + 1));
                }
            }
        }
    }

    private static void truncateAndAppend() {
        ProphecyShop s = new ProphecyShop();
        Checks.put(s, "adxben");
        Checks.due("3: the end is cut off", s.truncate(2), 4);
        Checks.put(s, "a");
        Checks.due("3: what was cut off is gone", s.findCustomer(), 0);
        s.truncate(0);
        Checks.put(s, "b".repeat(800));
        s.truncate(1);
        Checks.put(s, "en");
        Checks.due("3: of a full text", s.findCustomer(), 1);
        s.truncate(0);
        Checks.due("3: the empty text", s.findCustomer(), NONE);
        Checks.due("3: the empty script", s.runScript(), 0);
        Checks.due("3: it is empty for good", s.truncate(0), 0);
    }

    // ---- promise 13

    private static int found(ProphecyShop s, String text) {
        s.truncate(0);
        Checks.put(s, text);
        int customer = s.findCustomer();
        Checks.due("13: the text stays as it is: " + text, s.findCustomer(), customer);
        Checks.due("13: the text keeps its length: " + text, s.append(0, 0, 0, 0, 0), text.length());
        return customer;
    }

    /** The customer whose name is the whole text buffer. */
    private static void findCustomer() {
        ProphecyShop nobody = Checks.loaded("shop 1 1 1 1 1;event a;place b;");
        Checks.due("13: an empty text among no customers", found(nobody, ""), NONE);
        Checks.due("13: an event", found(nobody, "a"), NONE);
        Checks.due("13: a place", found(nobody, "b"), NONE);
        String[] names = {"a", "z", "az", "za", "aaaaaa", "zzzzzz", "azazaz", "b"};
        StringBuilder setup = new StringBuilder("shop 1 1 1 1 1;event c;place d;");
        for (String name : names) {
            setup.append("customer ").append(name).append(" 1 1;");
        }
        ProphecyShop s = Checks.loaded(setup.toString());
        for (int c = 0; c < names.length; c++) {
            Checks.due("13: customer " + c, found(s, names[c]), c);
        }
        String[] wrong = {"", " ", "aa", "aaaaa", "aaaaaaa", "aaaaaaaaaaaa", "zzzzz", "zzzzzzz", "y", "zz", "c", "d",
            "A", "`", "{", "0", "a ", " a", "a\n", "\na", "a;", "a b", "\u00e1", "\u0001", "\u0080", "\u00ff"};
        for (String text : wrong) {
            Checks.due("13: nobody is called " + text, found(s, text), NONE);
        }
    }

    private static void findCustomerInFullText() {
        ProphecyShop s = new ProphecyShop();
        Checks.due("13: 800 bytes", found(s, "ada" + " ".repeat(797)), NONE);
        Checks.due("13: 800 letters", found(s, "ben".repeat(267).substring(0, 800)), NONE);
        s.truncate(3);
        Checks.due("13: cut down to a name", s.findCustomer(), 1);
        s.truncate(2);
        Checks.due("13: cut too short", s.findCustomer(), NONE);
    }

    // ---- all calls

    /** An object is used for at most 512 calls: the last of them answers as the first. */
    private static void lastOf512Calls() {
        ProphecyShop s = new ProphecyShop();
        for (int call = 1; call <= 510; call += 3) {
            s.advance(2);
            s.happen(0, call % 3);
            s.undo();
        }
        Checks.due("call 511: the first sale", s.sellPlain(1, 0, 2, 99, 60, 300), 0);
        Checks.due("call 512: what was sold", s.writeProphecy(0), "ben:rain@pass 439-498".length());
        ProphecyShop t = new ProphecyShop();
        for (int call = 1; call <= 510; call += 3) {
            // "repeat 19(pass 1;pass 1;);", of which the appends take two calls.
            Checks.put(t, "repeat 19(pass 1;pass 1;);");
            t.runScript();
        }
        Checks.due("call 511: the days of 170 scripts", t.day(), 170 * 38);
        Checks.due("call 512: eight of them can be undone", t.undoCount(), 8);
        ProphecyShop u = new ProphecyShop();
        u.sellPlain(1, 0, 0, 0, 1, 10);
        u.ask(0);
        for (int call = 3; call <= 511; call++) {
            u.cashAfter(300);
        }
        Checks.due("call 512: the dearest one", u.daysUntilRefunded(0), 1);
    }
}
