import java.util.function.Consumer;
import java.util.function.Supplier;

/** The edges of promises 50 to 52 (output) and 53 to 56 (undo and slots). */
public final class OutputEdgeTest {
    private static final int NONE = ProphecyShop.NONE;
    private static final int MIN = Integer.MIN_VALUE;
    private static final int MAX = Integer.MAX_VALUE;

    public static void main(String[] args) {
        shortestAndLongestProphecy();
        digitsOfDays();
        namesOfAllLengths();
        refusedWriteLeavesTheOutput();
        queuesOfAllLengths();
        bytesOfTheOutput();
        outputIsReplaced();
        undoCounts();
        nothingToUndo();
        eachChangeIsRecorded();
        nothingElseIsRecorded();
        eightChanges();
        undoOfTheLargestShop();
        undoAndThenChange();
        slotNumbers();
        emptySlots();
        slotsKeepAndReplace();
        slotsOfTheLargestShop();
        restoreAndUndo();
        whatRestoreLeaves();
        Checks.end("OutputEdgeTest");
    }

    // ---- output

    private static void written(String what, ProphecyShop s, int length, String want) {
        Checks.due(what + ": length", length, want.length());
        Checks.due(what, Checks.output(s), want);
        Checks.due("52: no byte behind the last, " + what, s.outputByte(want.length()), NONE);
    }

    private static void shortestAndLongestProphecy() {
        ProphecyShop s = Checks.loaded("shop 0 1 1 1 1;event a;event abcdef;place z;place ghijkl;customer m 9 1;"
            + "customer nopqrs 9 1;");
        s.sellVague(0, 0, 0, 1, 1);
        s.sellPlain(0, 0, 0, 0, 1, 1);
        s.sellDenial(0, 0, 0, 0, 1, 1);
        written("50: the shortest", s, s.writeProphecy(0), "m:a@* 0-0");
        written("50: the shortest plain one", s, s.writeProphecy(1), "m:a@z 0-0");
        written("50: the shortest denial", s, s.writeProphecy(2), "m:!a@z 0-0");
        Shops.passTo(s, 9999);
        s.sellDenial(1, 1, 1, 99, 60, 1);
        s.sellPlain(1, 1, 1, 99, 60, 1);
        s.sellVague(1, 1, 99, 60, 1);
        written("50: the longest", s, s.writeProphecy(3), "nopqrs:!abcdef@ghijkl 10098-10157");
        written("50: the longest plain one", s, s.writeProphecy(4), "nopqrs:abcdef@ghijkl 10098-10157");
        written("50: the longest vague one", s, s.writeProphecy(5), "nopqrs:abcdef@* 10098-10157");
        written("50: decided long ago", s, s.writeProphecy(2), "m:!a@z 0-0");
    }

    /** Days with one digit more on the next day. */
    private static void digitsOfDays() {
        int[] days = {0, 1, 9, 10, 11, 99, 100, 101, 999, 1000, 1001, 9998, 9999};
        for (int day : days) {
            ProphecyShop s = Shops.onDay(day);
            s.sellPlain(1, 1, 2, 0, 2, 1);
            written("50: day " + day, s, s.writeProphecy(0), "ben:war@pass " + day + "-" + (day + 1));
        }
    }

    private static void namesOfAllLengths() {
        String letters = "zabcyx";
        StringBuilder setup = new StringBuilder("shop 0 1 1 1 1;");
        String[] tails = {"event %s;", "place %s;", "customer %s 9 1;"};
        for (String tail : tails) {
            for (int length = 1; length <= 6; length++) {
                setup.append(tail.replace("%s", letters.substring(0, length)));
            }
        }
        ProphecyShop s = Checks.loaded(setup.toString());
        for (int c = 0; c < 6; c++) {
            int event = (c + 2) % 6;
            int place = (c + 4) % 6;
            s.sellPlain(c, event, place, 0, 1, 1);
            String want = letters.substring(0, c + 1) + ":" + letters.substring(0, event + 1) + "@"
                + letters.substring(0, place + 1) + " 0-0";
            written("50: names of " + c, s, s.writeProphecy(c), want);
        }
        ProphecyShop first = new ProphecyShop();
        Checks.script(first, "sell ada plain rain inn 0 1 1; sell ben vague war 0 1 1;"
            + "sell cai never rain mill 1 2 3;");
        written("50: a plain one", first, first.writeProphecy(0), "ada:rain@inn 0-0");
        written("50: a vague one", first, first.writeProphecy(1), "ben:war@* 0-0");
        written("50: a denial", first, first.writeProphecy(2), "cai:!rain@mill 1-2");
    }

    private static void refusedWriteLeavesTheOutput() {
        Supplier<ProphecyShop> made = () -> {
            ProphecyShop s = Shops.sold(2, 1);
            s.writeProphecy(1);
            return s;
        };
        int[] wrong = {MIN, -1, 2, 24, MAX};
        for (int p : wrong) {
            Checks.missing("50: prophecy " + p, made, s -> s.writeProphecy(p));
        }
        Checks.missing("50: none is sold", ProphecyShop::new, s -> s.writeProphecy(0));
        ProphecyShop s = made.get();
        Checks.missing("50: prophecy 2", s, () -> s.writeProphecy(2));
        written("50: the output stays", s, "ben:war@* 0-0".length(), "ben:war@* 0-0");
    }

    private static void queuesOfAllLengths() {
        ProphecyShop s = Shops.sold(24, 60);
        StringBuilder want = new StringBuilder();
        written("51: empty", s, s.writeQueue(), "");
        for (int i = 0; i < 24; i++) {
            int p = (5 + 7 * i) % 24;
            s.ask(p);
            want.append(i == 0 ? "" : ",").append(p);
            Checks.due("51: requests " + i, s.writeQueue(), want.length());
        }
        written("51: all", s, s.writeQueue(), want.toString());
        s.advance(11);
        written("51: two are left", s, s.writeQueue(), (5 + 7 * 22) % 24 + "," + (5 + 7 * 23) % 24);
        s.ask(5);
        s.advance(1);
        written("51: one is left", s, s.writeQueue(), "5");
        s.advance(1);
        written("51: none is left", s, s.writeQueue(), "");
        s.ask(0);
        written("51: zero", s, s.writeQueue(), "0");
    }

    private static void bytesOfTheOutput() {
        int[] far = {MIN, MIN + 1, -2, -1, 0, 1, 800, MAX - 1, MAX};
        for (int index : far) {
            Checks.due("52: an empty output, byte " + index, new ProphecyShop().outputByte(index), NONE);
        }
        ProphecyShop s = Shops.sold(1, 1);
        s.ask(0);
        s.writeQueue();
        for (int index : far) {
            Checks.due("52: one byte, byte " + index, s.outputByte(index), index == 0 ? '0' : NONE);
        }
        s.writeProphecy(0);
        String want = "ben:rain@* 0-0";
        int[] bytes = {98, 101, 110, 58, 114, 97, 105, 110, 64, 42, 32, 48, 45, 48};
        for (int i = 0; i < bytes.length; i++) {
            Checks.due("52: byte " + i + " of " + want, s.outputByte(i), bytes[i]);
        }
        int[] wrong = {MIN, -1, 14, 15, 256, MIN + 3, MAX};
        for (int index : wrong) {
            Checks.due("52: byte " + index + " of " + want, s.outputByte(index), NONE);
        }
        s.sellDenial(1, 0, 0, 0, 1, 1);
        s.writeProphecy(1);
        Checks.due("52: an exclamation mark", s.outputByte(4), 33);
        s.ask(1);
        s.writeQueue();
        Checks.due("52: a comma", s.outputByte(1), 44);
        Checks.due("52: the last byte", s.outputByte(2), '1');
        Checks.due("52: no byte of the longer output before", s.outputByte(3), NONE);
    }

    private static void outputIsReplaced() {
        ProphecyShop s = Shops.sold(1, 1);
        s.writeProphecy(0);
        written("51: an empty queue", s, s.writeQueue(), "");
        written("50: after nothing", s, s.writeProphecy(0), "ben:rain@* 0-0");
        s.ask(0);
        written("51: a shorter one", s, s.writeQueue(), "0");
        s.advance(1);
        s.undo();
        s.save(0);
        s.restore(0);
        s.sellVague(1, 0, 0, 1, 1);
        Checks.script(s, "happen rain inn; pass 1;");
        Checks.script(s, "!");
        s.cashAfter(10);
        written("52: no other call replaces it", s, 1, "0");
        Checks.due("53: writing is not a change", s.undoCount(), 2);
    }

    // ---- undo

    private static void undoCounts() {
        for (int changes = 0; changes <= 10; changes++) {
            ProphecyShop s = new ProphecyShop();
            for (int i = 0; i < changes; i++) {
                s.advance(1);
            }
            int undoable = Math.min(changes, 8);
            Checks.due("53: after " + changes, s.undoCount(), undoable);
            for (int left = undoable - 1; left >= 0; left--) {
                Checks.due("54: after " + changes + ", left", s.undo(), left);
                Checks.due("53: after " + changes + ", left", s.undoCount(), left);
                Checks.due("8: the day before", s.day(), changes - undoable + left);
            }
            Checks.due("54: no more", Checks.nameOfThrown(() -> s.undo()), "IllegalStateException");
            Checks.due("8: the day stays", s.day(), changes - undoable);
            Checks.due("53: none", s.undoCount(), 0);
        }
    }

    private static void nothingToUndo() {
        Checks.badState("54: a new object", ProphecyShop::new, s -> s.undo());
        Checks.badState("54: a loaded shop", () -> {
            ProphecyShop s = Shops.onDay(3);
            Checks.put(s, Shops.SINGLE);
            s.load();
            return s;
        }, s -> s.undo());
        Checks.badState("54: a restored shop", () -> {
            ProphecyShop s = Shops.onDay(3);
            s.save(1);
            s.restore(1);
            return s;
        }, s -> s.undo());
        Checks.badState("54: all is undone", () -> {
            ProphecyShop s = Shops.onDay(600);
            for (int i = 0; i < 8; i++) {
                s.undo();
            }
            return s;
        }, s -> s.undo());
    }

    private static void isChange(String name, Consumer<ProphecyShop> change) {
        ProphecyShop s = Shops.sold(2, 9);
        String before = View.ofState(s);
        change.accept(s);
        Checks.due("53: " + name + " is a change", s.undoCount(), 3);
        String after = View.ofState(s);
        Checks.due("54: " + name + " does something", after.equals(before), false);
        Checks.due("54: undo of " + name, s.undo(), 2);
        Checks.due("54: as before " + name, View.ofState(s), before);
        change.accept(s);
        Checks.due("54: the same again, " + name, View.ofState(s), after);
    }

    private static void eachChangeIsRecorded() {
        isChange("sellPlain", s -> s.sellPlain(2, 1, 1, 0, 1, 1));
        isChange("sellVague", s -> s.sellVague(2, 1, 0, 1, 1));
        isChange("sellDenial", s -> s.sellDenial(2, 1, 1, 0, 1, 1));
        isChange("happen", s -> s.happen(1, 2));
        isChange("ask", s -> s.ask(1));
        isChange("advance", s -> s.advance(60));
        isChange("runScript", s -> Checks.script(s, "happen rain inn; ask 0; pass 9; sell cai vague war 0 1 1;"));
    }

    private static void nothingElseIsRecorded() {
        ProphecyShop s = Shops.sold(2, 9);
        s.append(0, 0, 0, 0, 'x');
        s.truncate(0);
        s.load();
        Checks.script(s, "pass");
        s.errorCode();
        s.errorPosition();
        s.findCustomer();
        s.daysUntilDecided(0);
        s.daysUntilRefunded(0);
        s.cashAfter(1);
        s.writeProphecy(0);
        s.writeQueue();
        s.save(0);
        View.of(s);
        Checks.nameOfThrown(() -> s.advance(0));
        Checks.nameOfThrown(() -> s.ask(2));
        Checks.nameOfThrown(() -> s.happen(2, 0));
        Checks.nameOfThrown(() -> s.sellPlain(0, 0, 0, 0, 1, 999));
        Checks.nameOfThrown(() -> s.sellVague(0, 0, 0, 0, 1));
        Checks.nameOfThrown(() -> s.sellDenial(0, 0, 3, 0, 1, 1));
        Checks.nameOfThrown(() -> s.restore(1));
        Checks.due("53: the two sales alone", s.undoCount(), 2);
        Checks.due("54: the second sale", s.undo(), 1);
        Checks.due("18: it is undone", s.prophecyCount(), 1);
    }

    /** At most 8 changes can be undone; an older one is forgotten. */
    private static void eightChanges() {
        for (int changes = 7; changes <= 10; changes++) {
            ProphecyShop s = made(changes);
            int oldest = Math.max(0, changes - 8);
            for (int i = changes - 1; i >= oldest; i--) {
                s.undo();
                Checks.due("54: without change " + i + " of " + changes, brief(s), brief(made(i)));
            }
            Checks.due("54: without the last " + (changes - oldest), View.ofState(s), View.ofState(made(oldest)));
        }
    }

    private static void change(ProphecyShop s, int number) {
        switch (number % 5) {
            case 0: s.sellPlain(1, 0, number % 3, 0, 2, 10 + number); break;
            case 1: s.ask(number / 5); break;
            case 2: s.advance(1 + number); break;
            case 3: s.happen(1, number % 3); break;
            default: Checks.script(s, "sell ada vague war 0 1 2;"); break;
        }
    }

    private static ProphecyShop made(int changes) {
        ProphecyShop s = new ProphecyShop();
        for (int i = 0; i < changes; i++) {
            change(s, i);
        }
        return s;
    }

    private static String brief(ProphecyShop s) {
        return s.day() + " " + s.cash() + " " + s.queueLength() + " " + s.prophecyCount() + " " + s.liveliestPlace();
    }

    /** All that there is at most: 24 prophecies, 24 requests, 60 happenings, eight purses, five flights. */
    private static ProphecyShop full() {
        ProphecyShop s = Checks.loaded(Shops.LARGEST.replace("shop 0 9 99", "shop 999 5 0"));
        Checks.script(s, "repeat 4 (happen a g; happen b h; happen c i; happen d j; happen e k; happen f l; happen a l;"
            + "happen b k; happen c j; pass 1;);");
        Checks.script(s, "happen d i; happen e h; repeat 11 (pass 1; happen f g; happen a g;);");
        for (int p = 0; p < 24; p++) {
            if (p % 3 == 0) {
                s.sellDenial(p % 8, p % 6, 5, 0, 1, 100 + p);
            } else {
                s.sellPlain(p % 8, p % 6, 0, 0, 1, 100 + p);
            }
            s.ask(p);
        }
        return s;
    }

    private static void undoOfTheLargestShop() {
        ProphecyShop s = full();
        Checks.due("47: sixty", Checks.nameOfThrown(() -> s.happen(0, 5)), "IllegalStateException");
        String before = purses(s);
        Checks.due("54: five are handled", s.advance(1), 5);
        Checks.due("32: owls fly", s.idleOwls() < 5, true);
        s.advance(60);
        Checks.due("54: something has changed", purses(s).equals(before), false);
        s.undo();
        s.undo();
        Checks.due("54: each purse, request, owl and prophecy", purses(s), before);
        ProphecyShop t = full();
        t.advance(1);
        ProphecyShop u = full();
        u.advance(1);
        u.advance(60);
        u.undo();
        Checks.due("54: with owls on their way", purses(u), purses(t));
        t.advance(7);
        u.advance(7);
        Checks.due("54: they go on as before", purses(u), purses(t));
    }

    private static String purses(ProphecyShop s) {
        StringBuilder v = new StringBuilder();
        v.append(s.day()).append(' ').append(s.cash()).append(' ').append(s.contradictions());
        for (int c = 0; c < 8; c++) {
            v.append(" purse ").append(s.purse(c));
        }
        for (int owl = 0; owl < 5; owl++) {
            v.append(" owl ").append(s.owlDays(owl)).append('/').append(s.owlCoins(owl));
        }
        for (int p = 0; p < 24; p++) {
            v.append(' ').append(s.stateOf(p)).append('/').append(s.placeInQueue(p)).append('/').append(s.answerFor(p));
        }
        return v.append(' ').append(s.handledRequests()).append(' ').append(s.refundTotal()).toString();
    }

    private static void undoAndThenChange() {
        ProphecyShop s = new ProphecyShop();
        for (int round = 0; round < 20; round++) {
            s.advance(1);
            s.advance(2);
            Checks.due("54: one of two", s.undo(), Math.min(round, 6) + 1);
        }
        Checks.due("8: the days that are left", s.day(), 20);
        s.sellDenial(1, 1, 1, 3, 4, 5);
        s.undo();
        Checks.due("54: another one in its place", s.sellVague(2, 0, 0, 1, 7), 0);
        Checks.due("22: nothing is left of the first", s.isDenial(0), false);
        Checks.due("21: nothing is left of the first", s.placeOf(0), NONE);
        Checks.due("14: nobody has paid twice", s.purse(1), 300);
    }

    // ---- slots

    private static void slotNumbers() {
        int[] wrong = {MIN, -2, -1, 2, 3, 256, MAX};
        for (int slot : wrong) {
            Checks.missing("55: slot " + slot, () -> Shops.onDay(1), s -> s.save(slot));
            Checks.missing("56: slot " + slot, () -> Shops.onDay(1), s -> s.restore(slot));
            Checks.missing("56: slot " + slot + " when the others are full", OutputEdgeTest::saved,
                s -> s.restore(slot));
            Checks.missing("55: slot " + slot + " when the others are full", OutputEdgeTest::saved, s -> s.save(slot));
        }
    }

    /** Day 1 in slot 0, day 2 in slot 1, and now it is day 3. */
    private static ProphecyShop saved() {
        ProphecyShop s = Shops.onDay(1);
        Checks.due("55: day 1", s.save(0), 1);
        s.advance(1);
        Checks.due("55: day 2", s.save(1), 2);
        s.advance(1);
        return s;
    }

    private static void emptySlots() {
        for (int slot = 0; slot < 2; slot++) {
            int empty = slot;
            int other = 1 - slot;
            Checks.noSuchElement("56: both are empty", () -> Shops.onDay(1), s -> s.restore(empty));
            Checks.noSuchElement("56: one is empty", () -> {
                ProphecyShop s = Shops.onDay(1);
                s.save(other);
                return s;
            }, s -> s.restore(empty));
            Checks.noSuchElement("56: emptied by load", () -> {
                ProphecyShop s = saved();
                Checks.put(s, Shops.SINGLE);
                s.load();
                return s;
            }, s -> s.restore(empty));
            ProphecyShop s = new ProphecyShop();
            Checks.due("55: a new object", s.save(slot), 0);
            s.advance(1);
            Checks.due("56: a new object", s.restore(slot), 0);
            ProphecyShop kept = saved();
            Checks.put(kept, "shop");
            kept.load();
            Checks.due("56: not emptied by an error", kept.restore(slot), 1 + slot);
        }
    }

    private static void slotsKeepAndReplace() {
        ProphecyShop s = saved();
        for (int i = 0; i < 3; i++) {
            Checks.due("56: slot 0 keeps it", s.restore(0), 1);
            Checks.due("8: day", s.day(), 1);
            s.advance(9);
            Checks.due("56: slot 1 keeps it", s.restore(1), 2);
            Checks.due("8: day", s.day(), 2);
        }
        s.advance(3);
        Checks.due("55: replaced", s.save(0), 5);
        s.advance(1);
        Checks.due("56: what replaced it", s.restore(0), 5);
        Checks.due("56: the other one is as before", s.restore(1), 2);
        Checks.due("55: the same in both", s.save(0), 2);
        Checks.due("56: the same in both", s.restore(0), 2);
        ProphecyShop last = Shops.onDay(9999);
        Checks.due("55: the last day", last.save(1), 9999);
        last.undo();
        Checks.due("56: the last day", last.restore(1), 9999);
    }

    private static void slotsOfTheLargestShop() {
        ProphecyShop s = full();
        s.save(1);
        String before = purses(s);
        s.advance(60);
        String after = purses(s);
        s.save(0);
        s.restore(1);
        Checks.due("56: each purse, request, owl and prophecy", purses(s), before);
        Checks.due("47: sixty", Checks.nameOfThrown(() -> s.happen(0, 5)), "IllegalStateException");
        s.restore(0);
        Checks.due("56: the other slot", purses(s), after);
        ProphecyShop t = full();
        t.save(1);
        t.advance(3);
        t.restore(1);
        t.advance(60);
        Checks.due("56: it goes on as before", purses(t), after);
    }

    /** After restore no change can be undone, and later ones can. */
    private static void restoreAndUndo() {
        ProphecyShop s = saved();
        Checks.due("53: save is not a change and forgets none", s.undoCount(), 3);
        s.restore(0);
        Checks.due("53: none", s.undoCount(), 0);
        Checks.badState("54: none", s, () -> s.undo());
        s.advance(4);
        Checks.due("53: one", s.undoCount(), 1);
        Checks.due("54: none is left", s.undo(), 0);
        Checks.due("8: as it was restored", s.day(), 1);
        s.advance(5);
        s.save(0);
        Checks.due("54: save is not undone", s.undo(), 0);
        Checks.due("56: the slot stays", s.restore(0), 6);
    }

    private static void whatRestoreLeaves() {
        ProphecyShop s = saved();
        s.sellVague(1, 0, 0, 1, 1);
        s.writeProphecy(0);
        Checks.put(s, "pass 61");
        s.runScript();
        Checks.put(s, "cai");
        s.restore(1);
        Checks.due("18: nothing is sold", s.prophecyCount(), 0);
        Checks.due("56: the text", s.findCustomer(), 2);
        Checks.due("56: the error code", s.errorCode(), ProphecyShop.OUT_OF_RANGE);
        Checks.due("56: the error position", s.errorPosition(), 5);
        Checks.due("56: the output", Checks.output(s), "ben:rain@* 3-3");
        s.advance(1);
        s.undo();
        Checks.due("54: the text", s.findCustomer(), 2);
        Checks.due("54: the error code", s.errorCode(), ProphecyShop.OUT_OF_RANGE);
        Checks.due("54: the error position", s.errorPosition(), 5);
        Checks.due("54: the output", Checks.output(s), "ben:rain@* 3-3");
        Checks.due("54: slot 0", s.restore(0), 1);
        Checks.due("54: slot 1", s.restore(1), 2);
    }
}
