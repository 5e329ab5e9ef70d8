import java.math.BigInteger;
import java.util.ArrayList;
import java.util.List;

/**
 * The edges that the document names for undoing and for the hash of the state (promises 26 and
 * 27): one method for each sentence.
 */
final class EdgeUndoTest {
    private static final Check check = new Check();
    private static final Class<IllegalStateException> STATE = IllegalStateException.class;

    public static void main(String[] args) {
        anEmptyStack();
        threeSavedStates();
        emptyAgainAfterThree();
        undoIsNotUndoable();
        savedEvenIfNothingChanges();
        everyUndoableCallComesBackWhole();
        linksComeBackAfterOtherLinks();
        timersComeBack();
        timesOfEntriesComeBack();
        otherCallsSaveNothing();
        refusedCallsSaveNothing();
        aRunWithAFaultSavesNothing();
        theScriptIsNotRestored();
        timesAreRestored();
        hashOfTheLeastNetwork();
        hashOfTheGreatestNetwork();
        hashOfABusyNetwork();
        hashCountsSavedStatesAndBytes();
        hashChangesNothing();
        check.finish();
    }

    /** "Throws IllegalStateException if the stack is empty" */
    private static void anEmptyStack() {
        BridgeAuction x = new BridgeAuction();
        check.refused("undo", x, STATE, () -> x.undo());
        check.refused("undo again", x, STATE, () -> x.undo());
        x.tick(1);
        check.due("undo of a tick", x.undo(), 0);
        check.due("time", x.time(), 0);
        check.refused("undo when it is empty again", x, STATE, () -> x.undo());
    }

    /** "The stack keeps the latest 3 saved states and drops older ones." */
    private static void threeSavedStates() {
        for (int calls = 1; calls <= 8; calls++) {
            BridgeAuction x = new BridgeAuction();
            for (int i = 0; i < calls; i++) {
                x.tick(1);
            }
            int kept = Math.min(3, calls);
            for (int left = kept - 1; left >= 0; left--) {
                check.due("states left of " + calls, x.undo(), left);
                check.due("time", x.time(), calls - kept + left);
            }
            check.refused("undo of one more", x, STATE, () -> x.undo());
        }
    }

    private static void emptyAgainAfterThree() {
        BridgeAuction x = new BridgeAuction();
        for (int round = 0; round < 4; round++) {
            for (int i = 0; i < 5; i++) {
                x.tick(1 + round);
            }
            check.due("undo", x.undo(), 2);
            x.tick(1);
            check.due("undo", x.undo(), 2);
            check.due("undo", x.undo(), 1);
            check.due("undo", x.undo(), 0);
            // Two of the five ticks of each round are left.
            check.due("time", x.time(), (round + 1) * (round + 2));
        }
    }

    private static void undoIsNotUndoable() {
        BridgeAuction x = new BridgeAuction();
        x.tick(1);
        x.tick(1);
        check.due("undo", x.undo(), 1);
        check.due("undo goes on", x.undo(), 0);
        check.due("time", x.time(), 0);
        check.refused("nothing brings it back", x, STATE, () -> x.undo());
    }

    /** "saves the whole state but the script on an undo stack when it ends normally, also if it changes nothing" */
    private static void savedEvenIfNothingChanges() {
        List<Recipe.Call> calls = List.of(x -> x.setTimes(3, 10, 5), x -> x.setPriority(0, 5),
                x -> x.moveHost(7, 3), x -> x.bid(0, 0, 0), x -> x.grant(0, 0), x -> x.run(),
                x -> Check.runText(x, "tick 0;"));
        for (int i = 0; i < calls.size(); i++) {
            BridgeAuction x = new BridgeAuction();
            x.addLink(0, 1, 1);
            calls.get(i).on(x);
            check.due("undo of call " + i, x.undo(), 1);
            check.due("it is there", x.links(), 1);
            check.due("undo of the link", x.undo(), 0);
        }
    }

    /** "The saved state is the one from before the call." */
    private static void everyUndoableCallComesBackWhole() {
        List<Recipe.Call> calls = List.of(x -> x.setBridges(2), x -> x.setBridges(8), x -> x.setTimes(20, 100, 0),
                x -> x.setPriority(1, 0), x -> x.addLink(0, 3, 100), x -> x.fail(0), x -> x.fix(3),
                x -> x.moveHost(7, 0), x -> x.bid(3, 3, 1000), x -> x.grant(3, 10000), x -> x.tick(1),
                x -> x.tick(200), x -> x.send(0, 3), x -> x.send(4, 0), x -> x.run());
        List<Integer> due = toldOverTime(Recipe.busy());
        for (int i = 0; i < calls.size(); i++) {
            BridgeAuction x = Recipe.busy();
            calls.get(i).on(x);
            x.undo();
            check.due("undo of call " + i + " brings all back", toldOverTime(x).equals(due), true);
        }
    }

    /** All values of the face, then and when the entries, timers and auctions have gone on. */
    private static List<Integer> toldOverTime(BridgeAuction x) {
        List<Integer> told = new ArrayList<>();
        int[] ticks = {1, 5, 30, 1, 1, 13, 1, 1};
        Traces.tellValues(x, told);
        for (int some : ticks) {
            x.tick(some);
            Traces.tellValues(x, told);
        }
        for (int host = 0; host < 8; host++) {
            told.add(x.moveHost(host, 0));
        }
        return told;
    }

    private static void linksComeBackAfterOtherLinks() {
        BridgeAuction x = Recipe.busy();
        x.setBridges(8);
        x.addLink(6, 7, 99);
        x.addLink(5, 4, 98);
        x.undo();
        x.undo();
        x.undo();
        check.due("a network comes back after another one",
                toldOverTime(x).equals(toldOverTime(Recipe.busy())), true);
    }

    private static void timersComeBack() {
        int[] timers = {3, 2, 1, 3, 2, 1, 0};
        BridgeAuction x = new BridgeAuction();
        x.addLink(0, 1, 1);
        for (int time = 1; time <= 7; time++) {
            x.tick(1);
            check.due("timer", x.port(0, false, 2), timers[time - 1]);
            x.tick(1);
            x.undo();
            check.due("lower timer after undo", x.port(0, false, 2), timers[time - 1]);
            check.due("higher timer after undo", x.port(0, true, 2), timers[time - 1]);
        }
    }

    private static void timesOfEntriesComeBack() {
        BridgeAuction x = new BridgeAuction();
        x.setBridges(8);
        x.setTimes(1, 100, 5);
        for (int bridge = 0; bridge < 7; bridge++) {
            x.addLink(bridge, bridge + 1, 1);
        }
        x.tick(11);
        x.send(7, 0);
        x.tick(20);
        x.send(7, 0);
        x.undo();
        x.tick(30);
        for (int bridge = 0; bridge < 7; bridge++) {
            check.due("50 ticks after the first frame", x.entry(bridge, 7), bridge);
        }
        x.tick(1);
        for (int bridge = 0; bridge < 8; bridge++) {
            check.due("the second one was undone", x.entry(bridge, 7), BridgeAuction.NONE);
            check.due("entries", x.bridge(bridge, 5), 1);
        }
    }

    private static void otherCallsSaveNothing() {
        List<Recipe.Call> calls = List.of(x -> x.time(), x -> x.bridge(0, 0), x -> x.links(), x -> x.link(0, 0),
                x -> x.port(0, true, 0), x -> x.entry(0, 0), x -> x.tenant(0, 0), x -> x.bidOf(0, 0),
                x -> x.count(6), x -> x.isForest() ? 1 : 0, x -> x.digest());
        List<Long> due = Traces.of(Recipe::busy);
        for (int i = 0; i < calls.size(); i++) {
            Recipe.Call call = calls.get(i);
            List<Long> told = Traces.of(() -> {
                BridgeAuction x = Recipe.busy();
                call.on(x);
                return x;
            });
            check.due("call " + i + " changes nothing", told.equals(due), true);
        }
        BridgeAuction x = new BridgeAuction();
        x.type(' ');
        x.clearScript();
        check.refused("undo of typing and clearing", x, STATE, () -> x.undo());
    }

    private static void refusedCallsSaveNothing() {
        BridgeAuction x = new BridgeAuction();
        x.tick(3);
        check.refused("tick(0)", x, IllegalArgumentException.class, () -> x.tick(0));
        check.refused("fail(0)", x, IndexOutOfBoundsException.class, () -> x.fail(0));
        check.due("undo of the tick", x.undo(), 0);
        check.due("time", x.time(), 0);
    }

    /** "Undoable, if it has no fault." */
    private static void aRunWithAFaultSavesNothing() {
        BridgeAuction x = new BridgeAuction();
        check.due("a fault", Check.runText(x, "tick 1;!"), -17);
        check.refused("undo", x, STATE, () -> x.undo());
        check.due("no fault, two commands", Check.runText(x, "tick 1;tick 1;"), 2);
        check.due("one state for the run", x.undo(), 0);
        check.due("time", x.time(), 0);
    }

    private static void theScriptIsNotRestored() {
        BridgeAuction x = new BridgeAuction();
        Check.type(x, "tick");
        x.grant(0, 1);
        Check.type(x, " 7;");
        x.undo();
        check.due("all that was typed is there", x.run(), 1);
        check.due("time", x.time(), 7);
        x.clearScript();
        x.undo();
        check.due("what was cleared does not come back", x.clearScript(), 0);
    }

    private static void timesAreRestored() {
        BridgeAuction x = new BridgeAuction();
        x.addLink(0, 1, 10);
        x.bid(0, 0, 50);
        x.bid(1, 0, 5);
        x.setTimes(20, 100, 0);
        x.undo();
        x.tick(1);
        check.due("delay", x.port(0, false, 2), 3);
        x.tick(9);
        check.due("interval", x.count(0), 1);
        check.due("hysteresis", x.link(0, 3), 10);
    }

    /** The hash in whole numbers without an end, of which the last 64 bits are due. */
    private static final class Whole {
        private static final BigInteger FACTOR = BigInteger.valueOf(31);

        private BigInteger h = BigInteger.valueOf(18498);

        void add(long... values) {
            for (long value : values) {
                h = h.multiply(FACTOR).add(BigInteger.valueOf(value));
            }
        }

        void addFace(BridgeAuction x, int bridges, int... hosts) {
            for (int b = 0; b < bridges; b++) {
                for (int what = 0; what <= 5; what++) {
                    add(x.bridge(b, what));
                }
                for (int host = 0; host < 8; host++) {
                    add(x.entry(b, host));
                }
            }
            for (int host : hosts) {
                add(host);
            }
            add(x.links());
            for (int l = 0; l < x.links(); l++) {
                for (int what = 0; what <= 8; what++) {
                    add(x.link(l, what));
                }
                add(x.port(l, false, 0), x.port(l, false, 1), x.port(l, false, 2));
                add(x.port(l, true, 0), x.port(l, true, 1), x.port(l, true, 2));
                add(x.bidOf(0, l), x.bidOf(1, l), x.bidOf(2, l), x.bidOf(3, l));
            }
            for (int t = 0; t < 4; t++) {
                add(x.tenant(t, 0), x.tenant(t, 1), x.tenant(t, 2), x.tenant(t, 3));
            }
            for (int what = 0; what <= 6; what++) {
                add(x.count(what));
            }
            add(x.isForest() ? 1 : 0);
        }

        void due(String name, BridgeAuction x) {
            check.due(name + ": it does not fit a long", h.bitLength() > 64, true);
            check.due(name, x.digest(), h.longValue());
        }
    }

    /** "(long arithmetic, overflow wraps)" */
    private static void hashOfTheLeastNetwork() {
        BridgeAuction x = new BridgeAuction();
        x.setBridges(2);
        Whole h = new Whole();
        h.add(1, 0, 2, 0, 3, 10, 5);
        for (int bridge = 0; bridge < 2; bridge++) {
            h.add(50 + bridge, 50 + bridge, 0, 0, -1, 0, -1, -1, -1, -1, -1, -1, -1, -1);
        }
        h.add(0, 1, 0, 1, 0, 1, 0, 1);
        h.add(0);
        for (int tenant = 0; tenant < 4; tenant++) {
            h.add(100, 0, 0, 0);
        }
        h.add(0, 0, 0, 0, 0, 0, 0, 1);
        h.due("two bridges and no link", x);
    }

    private static void hashOfTheGreatestNetwork() {
        BridgeAuction x = Recipe.full();
        Whole h = new Whole();
        h.add(3, 120, 8, 12, 1, 10, 5);
        h.addFace(x, 8, 0, 1, 2, 3, 4, 5, 6, 7);
        h.due("eight bridges and 16 links", x);
    }

    private static void hashOfABusyNetwork() {
        BridgeAuction x = Recipe.busy();
        Whole h = new Whole();
        h.add(3, 17, 4, 14, 1, 10, 20);
        h.addFace(x, 4, 0, 1, 2, 3, 0, 1, 2, 3);
        h.due("busy", x);
        x.moveHost(6, 0);
        x.tick(60);
        Whole later = new Whole();
        later.add(3, 17, 4, 74, 1, 10, 20);
        later.addFace(x, 4, 0, 1, 2, 3, 0, 1, 0, 3);
        later.due("busy, with entries that are not valid any more", x);
    }

    private static void hashCountsSavedStatesAndBytes() {
        BridgeAuction x = new BridgeAuction();
        for (int saved = 0; saved <= 5; saved++) {
            Whole h = new Whole();
            h.add(Math.min(saved, 3), 0, 4, 0, 3, 10, 5);
            h.addFace(x, 4, 0, 1, 2, 3, 0, 1, 2, 3);
            h.due(saved + " calls", x);
            x.moveHost(0, 0);
        }
        BridgeAuction y = new BridgeAuction();
        for (int length = 0; length <= 120; length++) {
            Whole h = new Whole();
            h.add(0, length, 4, 0, 3, 10, 5);
            h.addFace(y, 4, 0, 1, 2, 3, 0, 1, 2, 3);
            h.due(length + " bytes", y);
            if (length < 120) {
                y.type('x');
            }
        }
    }

    private static void hashChangesNothing() {
        BridgeAuction x = Recipe.full();
        long first = x.digest();
        check.due("the same again", x.digest(), first);
        check.due("and that of another of the same kind", Recipe.full().digest(), first);
    }
}
