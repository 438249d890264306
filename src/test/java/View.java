import java.util.NoSuchElementException;

/** Everything that the calls without a change tell of a shop, as one text. */
final class View {
    private View() {
    }

    /** All that undo brings back. */
    static String ofState(ProphecyShop s) {
        StringBuilder v = new StringBuilder();
        v.append("day ").append(s.day()).append(" cash ").append(s.cash());
        v.append(" kinds ").append(s.eventCount()).append(' ').append(s.placeCount());
        v.append(" handled ").append(s.handledRequests()).append(" paid ").append(s.refundTotal());
        v.append(" truth ").append(s.truthShare()).append(" mean ").append(s.meanPrice());
        v.append(" contradictions ").append(s.contradictions());
        v.append(" idle ").append(s.idleOwls()).append(" queue ").append(s.queueLength());
        v.append(" liveliest ").append(s.liveliestPlace());
        for (int state = 0; state < 4; state++) {
            v.append(" in").append(state).append(' ').append(s.countIn(state));
        }
        int customers = s.customerCount();
        for (int c = 0; c < customers; c++) {
            v.append(" purse ").append(s.purse(c));
        }
        addOwls(v, s);
        addHappenings(v, s);
        int prophecies = s.prophecyCount();
        for (int p = 0; p < prophecies; p++) {
            addProphecy(v, s, p);
        }
        return v.toString();
    }

    /** The state and all else that can be seen without changing anything. */
    static String of(ProphecyShop s) {
        StringBuilder v = new StringBuilder(ofState(s));
        v.append("\nundo ").append(s.undoCount()).append(" error ").append(s.errorCode());
        v.append(" at ").append(s.errorPosition()).append(" output ").append(Checks.output(s));
        v.append(" text length ").append(s.append(0, 0, 0, 0, 0));
        return v.toString();
    }

    /**
     * All that can be seen of a shop, down to its oldest change and its slots, which leaves the shop undone.
     * With 24 prophecies and 8 changes it makes some 450 calls of the 512.
     */
    static String ofAll(ProphecyShop s) {
        StringBuilder v = new StringBuilder(of(s));
        v.append(" finds ").append(s.findCustomer());
        for (int left = s.undoCount(); left > 0; left--) {
            s.undo();
            addBrief(v.append("\nundone: "), s);
        }
        for (int slot = 0; slot < 2; slot++) {
            v.append("\nslot ").append(slot).append(": ");
            try {
                s.restore(slot);
                addBrief(v, s);
            } catch (NoSuchElementException e) {
                v.append("empty");
            }
        }
        return v.toString();
    }

    private static void addBrief(StringBuilder v, ProphecyShop s) {
        v.append(s.day()).append(' ').append(s.cash()).append(' ').append(s.prophecyCount());
        v.append(' ').append(s.queueLength()).append(' ').append(s.handledRequests());
        v.append(' ').append(s.countIn(ProphecyShop.OPEN)).append(' ').append(s.timesHappened(0, 0));
    }

    private static void addOwls(StringBuilder v, ProphecyShop s) {
        for (int owl = 0; owl < 5; owl++) {
            try {
                v.append(" owl ").append(s.owlDays(owl)).append('/').append(s.owlCoins(owl));
            } catch (IndexOutOfBoundsException e) {
                v.append(" none");
            }
        }
    }

    private static void addHappenings(StringBuilder v, ProphecyShop s) {
        int events = s.eventCount();
        int places = s.placeCount();
        int day = s.day();
        for (int event = 0; event < events; event++) {
            for (int place = 0; place < places; place++) {
                v.append(" times ").append(s.timesHappened(event, place));
                v.append(s.hasHappened(event, place, day) ? "!" : "");
            }
        }
    }

    private static void addProphecy(StringBuilder v, ProphecyShop s, int p) {
        v.append("\nprophecy ").append(p).append(' ').append(s.customerOf(p)).append(' ').append(s.eventOf(p));
        v.append(' ').append(s.placeOf(p)).append(' ').append(s.isDenial(p)).append(' ').append(s.firstDay(p));
        int state = s.stateOf(p);
        v.append('-').append(s.lastDay(p)).append(" state ").append(state);
        if (state != ProphecyShop.OPEN) {
            v.append(" on ").append(s.decidedOn(p));
        }
        v.append(" refund ").append(s.refundOf(p)).append(" place ").append(s.placeInQueue(p));
        v.append(" answer ").append(s.answerFor(p)).append(" expected ").append(s.expectedAnswer(p));
        v.append(" until ").append(s.daysUntilDecided(p));
    }
}
