/** Promises 50 to 52 (output) and 53 to 56 (undo and slots). */
public final class OutputTest {
    private static final int NONE = ProphecyShop.NONE;

    public static void main(String[] args) {
        writeProphecy();
        longestNames();
        writeQueue();
        outputByte();
        undoCount();
        undoOfEachChange();
        nineChanges();
        whatUndoLeaves();
        saveAndRestore();
        saveReplaces();
        slotsAreCopies();
        slotsOfDifferentShops();
        wrongSlots();
        Checks.end("OutputTest");
    }

    private static void written(String what, ProphecyShop s, int length, String want) {
        Checks.due(what + ", length", length, want.length());
        Checks.due(what, Checks.output(s), want);
    }

    private static void writeProphecy() {
        ProphecyShop s = new ProphecyShop();
        s.sellPlain(0, 0, 1, 0, 3, 1);
        s.sellVague(1, 1, 10, 1, 1);
        s.sellDenial(2, 0, 2, 99, 60, 1);
        written("50: plain", s, s.writeProphecy(0), "ada:rain@mill 0-2");
        written("50: vague", s, s.writeProphecy(1), "ben:war@* 10-10");
        written("50: denial", s, s.writeProphecy(2), "cai:!rain@pass 99-158");
        written("50: a shorter one replaces it", s, s.writeProphecy(1), "ben:war@* 10-10");
        Checks.due("50: none", Checks.nameOfThrown(() -> s.writeProphecy(3)), "IndexOutOfBoundsException");
        Checks.due("50: none", Checks.nameOfThrown(() -> s.writeProphecy(-1)), "IndexOutOfBoundsException");
        Checks.due("50: no change", s.undoCount(), 3);
        s.happen(0, 1);
        s.advance(1);
        written("50: a decided one", s, s.writeProphecy(0), "ada:rain@mill 0-2");
        s.advance(60);
        s.sellDenial(1, 1, 0, 39, 1, 1);
        written("50: three digits", s, s.writeProphecy(3), "ben:!war@inn 100-100");
    }

    private static void longestNames() {
        ProphecyShop s = Checks.loaded("shop 1 1 1 1 1;event zazbzc;event a;place yxwvut;place m;customer abcdef 9 1;"
            + "customer z 9 1;");
        s.sellDenial(0, 0, 0, 0, 1, 1);
        s.sellPlain(1, 1, 1, 0, 1, 1);
        written("50: six letters", s, s.writeProphecy(0), "abcdef:!zazbzc@yxwvut 0-0");
        written("50: one letter", s, s.writeProphecy(1), "z:a@m 0-0");
    }

    private static void writeQueue() {
        ProphecyShop s = new ProphecyShop();
        written("51: empty at first", s, s.writeQueue(), "");
        for (int i = 0; i < 24; i++) {
            s.sellPlain(1, 0, 0, 0, 60, 1);
        }
        s.writeProphecy(0);
        written("51: an empty queue replaces the output", s, s.writeQueue(), "");
        s.ask(10);
        written("51: one", s, s.writeQueue(), "10");
        s.ask(0);
        s.ask(23);
        s.ask(9);
        written("51: in the order of the queue", s, s.writeQueue(), "10,0,23,9");
        s.advance(1);
        written("51: two were handled", s, s.writeQueue(), "23,9");
        s.ask(10);
        written("51: at the end again", s, s.writeQueue(), "23,9,10");
        for (int i = 0; i < 24; i++) {
            if (s.placeInQueue(i) == NONE) {
                s.ask(i);
            }
        }
        written("51: all", s, s.writeQueue(), "23,9,10,0,1,2,3,4,5,6,7,8,11,12,13,14,15,16,17,18,19,20,21,22");
    }

    private static void outputByte() {
        ProphecyShop s = new ProphecyShop();
        Checks.due("52: empty", s.outputByte(0), NONE);
        s.sellPlain(0, 0, 1, 0, 3, 1);
        s.writeProphecy(0);
        String want = "ada:rain@mill 0-2";
        for (int i = 0; i < want.length(); i++) {
            Checks.due("52: byte " + i, s.outputByte(i), want.charAt(i));
        }
        int[] wrong = {Integer.MIN_VALUE, -1, want.length(), want.length() + 1, 800, Integer.MAX_VALUE};
        for (int i : wrong) {
            Checks.due("52: byte " + i, s.outputByte(i), NONE);
        }
        s.writeQueue();
        Checks.due("52: replaced", s.outputByte(0), NONE);
    }

    private static void undoCount() {
        ProphecyShop s = new ProphecyShop();
        Checks.due("53: none", s.undoCount(), 0);
        Checks.badState("54: none", s, () -> s.undo());
        for (int i = 1; i <= 12; i++) {
            s.advance(1);
            Checks.due("53: after " + i, s.undoCount(), Math.min(i, 8));
        }
        for (int i = 7; i >= 0; i--) {
            Checks.due("54: that can still be undone", s.undo(), i);
            Checks.due("53: that can still be undone", s.undoCount(), i);
        }
        Checks.due("54: eight of twelve days are undone", s.day(), 4);
        Checks.badState("54: older ones are forgotten", s, () -> s.undo());
        s.advance(1);
        Checks.due("53: one again", s.undoCount(), 1);
        Checks.due("54: none is left", s.undo(), 0);
        Checks.due("54: the day before", s.day(), 4);
    }

    private static void undoOfEachChange() {
        String[] names = {"sellPlain", "sellVague", "sellDenial", "happen", "ask", "advance", "runScript"};
        for (int change = 0; change < names.length; change++) {
            ProphecyShop s = new ProphecyShop();
            s.sellPlain(1, 0, 0, 0, 1, 30);
            s.sellPlain(1, 0, 0, 0, 60, 30);
            s.advance(1);
            s.ask(0);
            String before = View.ofState(s);
            makeChange(s, change);
            Checks.due("54: " + names[change] + " is a change", s.undoCount(), 5);
            Checks.due("54: " + names[change] + " does something", View.ofState(s).equals(before), false);
            Checks.due("54: undo of " + names[change], s.undo(), 4);
            Checks.due("54: all is as before " + names[change], View.ofState(s), before);
        }
    }

    private static void makeChange(ProphecyShop s, int change) {
        switch (change) {
            case 0: s.sellPlain(0, 0, 1, 0, 2, 3); break;
            case 1: s.sellVague(0, 0, 0, 2, 3); break;
            case 2: s.sellDenial(0, 0, 1, 0, 2, 3); break;
            case 3: s.happen(0, 0); break;
            case 4: s.ask(1); break;
            case 5: s.advance(2); break;
            default: Checks.script(s, "happen war inn; sell ada vague war 0 1 1; ask 1; pass 5;"); break;
        }
    }

    private static ProphecyShop afterSales(int count) {
        ProphecyShop s = new ProphecyShop();
        for (int i = 0; i < count; i++) {
            s.sellPlain(1, 0, i % 3, i, 1 + i, 1 + i);
        }
        return s;
    }

    private static void nineChanges() {
        for (int left = 8; left >= 1; left--) {
            ProphecyShop s = afterSales(9);
            for (int i = 9; i > left; i--) {
                s.undo();
            }
            Checks.due("54: before change " + left, View.ofState(s), View.ofState(afterSales(left)));
        }
        ProphecyShop s = afterSales(9);
        for (int i = 0; i < 8; i++) {
            s.undo();
        }
        Checks.badState("54: the ninth is forgotten", s, () -> s.undo());
        Checks.due("54: other ones can be made", s.sellVague(0, 1, 0, 2, 5), 1);
        Checks.due("21: nothing of the undone ones is left", s.placeOf(1), NONE);
    }

    private static void whatUndoLeaves() {
        ProphecyShop s = new ProphecyShop();
        s.sellPlain(1, 0, 0, 0, 1, 30);
        s.save(0);
        Checks.put(s, "shop 1 x");
        s.load();
        s.ask(0);
        s.save(1);
        s.writeProphecy(0);
        Checks.put(s, "ada");
        s.undo();
        Checks.due("54: the text stays", s.findCustomer(), 0);
        Checks.due("54: the error code stays", s.errorCode(), ProphecyShop.SYNTAX);
        Checks.due("54: the error position stays", s.errorPosition(), 7);
        Checks.due("54: the output stays", Checks.output(s), "ben:rain@inn 0-0");
        s.undo();
        Checks.due("54: nothing is sold", s.prophecyCount(), 0);
        Checks.due("54: the output stays even so", Checks.output(s), "ben:rain@inn 0-0");
        s.restore(0);
        Checks.due("54: slot 0 stays", s.prophecyCount() + 10 * s.queueLength(), 1);
        s.restore(1);
        Checks.due("54: slot 1 stays", s.prophecyCount() + 10 * s.queueLength(), 11);
        Checks.due("56: the text stays", s.findCustomer(), 0);
        Checks.due("56: the error code stays", s.errorCode(), ProphecyShop.SYNTAX);
        Checks.due("56: the error position stays", s.errorPosition(), 7);
        Checks.due("56: the output stays", Checks.output(s), "ben:rain@inn 0-0");
    }

    /** Day 3 in slot 1, day 12 in slot 0; then a change is undone and another one made. */
    private static ProphecyShop savedTwice() {
        ProphecyShop s = afterThreeDays();
        Checks.due("55: the day", s.save(1), 3);
        laterDays(s);
        Checks.due("55: the other slot", s.save(0), 12);
        s.undo();
        s.sellVague(0, 1, 0, 1, 5);
        return s;
    }

    private static ProphecyShop afterThreeDays() {
        ProphecyShop s = new ProphecyShop();
        s.sellPlain(1, 0, 0, 0, 1, 30);
        s.sellDenial(1, 1, 0, 0, 9, 30);
        s.advance(2);
        s.ask(0);
        s.happen(0, 0);
        s.advance(1);
        return s;
    }

    private static void laterDays(ProphecyShop s) {
        s.happen(1, 0);
        s.advance(9);
    }

    private static void saveAndRestore() {
        ProphecyShop s = savedTwice();
        Checks.due("56: the day", s.restore(1), 3);
        Checks.due("56: what was saved", View.ofState(s), View.ofState(afterThreeDays()));
        Checks.due("56: no undo", s.undoCount(), 0);
        Checks.badState("56: no undo", s, () -> s.undo());
        ProphecyShop later = afterThreeDays();
        laterDays(later);
        Checks.due("56: the other slot", s.restore(0), 12);
        Checks.due("56: what was saved", View.ofState(s), View.ofState(later));
        ProphecyShop saved = afterThreeDays();
        String whole = View.of(saved);
        saved.save(0);
        Checks.due("55: no change and nothing else", View.of(saved), whole);
    }

    private static void saveReplaces() {
        ProphecyShop s = savedTwice();
        s.restore(0);
        s.advance(1);
        Checks.due("55: save replaces", s.save(0), 13);
        Checks.due("53: save keeps the changes", s.undoCount(), 1);
        s.undo();
        Checks.due("56: what replaced it", s.restore(0), 13);
        Checks.due("56: the slot keeps it", s.restore(1), 3);
        Checks.due("56: the slot keeps it", s.restore(1), 3);
        Checks.due("56: the slot keeps all", View.ofState(s), View.ofState(afterThreeDays()));
    }

    private static void slotsAreCopies() {
        ProphecyShop s = new ProphecyShop();
        s.sellPlain(1, 0, 0, 0, 9, 30);
        s.save(0);
        s.restore(0);
        String saved = View.ofState(s);
        s.happen(0, 0);
        s.ask(0);
        s.sellPlain(0, 0, 0, 0, 1, 1);
        s.advance(1);
        s.restore(0);
        Checks.due("56: later changes do not reach the slot", View.ofState(s), saved);
        s.happen(0, 0);
        s.undo();
        Checks.due("54: undo after restore", View.ofState(s), saved);
    }

    private static void firstLife(ProphecyShop s) {
        s.sellPlain(1, 0, 2, 0, 1, 30);
        s.sellDenial(1, 1, 1, 1, 2, 20);
        s.sellVague(0, 1, 0, 1, 7);
        s.happen(0, 0);
        s.happen(0, 1);
        s.advance(1);
        s.ask(0);
        s.ask(2);
        s.advance(1);
        s.happen(1, 1);
        s.ask(1);
    }

    private static void secondLife(ProphecyShop s) {
        s.advance(4);
        s.sellVague(2, 1, 3, 4, 5);
        s.sellPlain(0, 1, 0, 0, 1, 6);
        s.sellPlain(2, 0, 1, 0, 9, 7);
        s.happen(1, 2);
        s.happen(0, 2);
        s.advance(3);
        s.ask(1);
        s.ask(0);
        s.advance(2);
        s.happen(0, 1);
    }

    /** The two slots have nothing in common but the setup. */
    private static void slotsOfDifferentShops() {
        for (int slot = 0; slot < 2; slot++) {
            ProphecyShop s = new ProphecyShop();
            s.save(0);
            firstLife(s);
            s.save(1);
            s.restore(0);
            secondLife(s);
            s.save(0);
            s.restore(slot);
            s.restore(1 - slot);
            s.restore(slot);
            ProphecyShop lived = new ProphecyShop();
            if (slot == 1) {
                firstLife(lived);
            } else {
                secondLife(lived);
            }
            Checks.due("56: slot " + slot, viewAndFuture(s), viewAndFuture(lived));
        }
    }

    /** The view of the shop with all its happenings, and what comes of the twelve days that it then lets pass. */
    private static String viewAndFuture(ProphecyShop s) {
        StringBuilder v = new StringBuilder(View.ofState(s));
        for (int event = 0; event < 2; event++) {
            for (int place = 0; place < 3; place++) {
                for (int day = 0; day < 12; day++) {
                    v.append(s.hasHappened(event, place, day) ? '1' : '0');
                }
            }
        }
        for (int i = 0; i < 12; i++) {
            v.append("\nhandled ").append(s.advance(1)).append(" cash ").append(s.cash());
            v.append(" owls ").append(s.owlDays(0)).append(' ').append(s.owlDays(1));
        }
        return v.append('\n').append(View.ofState(s)).toString();
    }

    private static void wrongSlots() {
        ProphecyShop s = new ProphecyShop();
        int[] wrong = {Integer.MIN_VALUE, -1, 2, 3, Integer.MAX_VALUE};
        for (int slot : wrong) {
            Checks.missing("55: slot " + slot, ProphecyShop::new, t -> t.save(slot));
            Checks.missing("56: slot " + slot, ProphecyShop::new, t -> t.restore(slot));
        }
        s.save(0);
        Checks.refused("56: the other one is empty", s, java.util.NoSuchElementException.class, () -> s.restore(1));
        Checks.due("56: on day 0", s.restore(0), 0);
    }
}
