/**
 * The edges that the document names for ticks, vectors, ports and the flushing of tables (promises
 * 11, 12, 14 and 17): one method for each sentence.
 */
final class EdgeTreeTest {
    private static final Check check = new Check();
    private static final int NONE = BridgeAuction.NONE;
    private static final int ROOT = BridgeAuction.ROOT;
    private static final int DESIGNATED = BridgeAuction.DESIGNATED;
    private static final int ALTERNATE = BridgeAuction.ALTERNATE;
    private static final int BLOCKING = BridgeAuction.BLOCKING;
    private static final int LISTENING = BridgeAuction.LISTENING;
    private static final int LEARNING = BridgeAuction.LEARNING;
    private static final int FORWARDING = BridgeAuction.FORWARDING;
    private static final Class<IndexOutOfBoundsException> INDEX = IndexOutOfBoundsException.class;
    private static final Class<IllegalArgumentException> ARGUMENT = IllegalArgumentException.class;

    public static void main(String[] args) {
        leastAndGreatestTicks();
        ticksOutOfRange();
        theLongestLife();
        firstVectors();
        vectorsOfTheTickBefore();
        ageNineGoesOnAndAgeTenDoesNot();
        theFarthestOfEightBridges();
        linksThatAreDownAreNoCandidates();
        leastRootBeforeLeastCost();
        leastCostBeforeLeastId();
        leastIdBeforeLowestLink();
        lowestLinkAmongEqualOnes();
        theRootKeepsItsOwnVector();
        everyTickOfTheLeastAndTheGreatestDelay();
        alternateFromEveryStateAtOnce();
        alternateOfALinkThatIsUp();
        anotherRoleDoesNotStopATimer();
        designatedByRootThenCostThenId();
        oneEndAloneDoesNotCarry();
        aLinkThatIsDownDoesNotCarry();
        changesAreCountedByPort();
        learningFlushesNothing();
        theBridgeItselfIsFlushed();
        bridgesThatAreNotReachedAreNotFlushed();
        portsOfAnEarlierTickFlushNothing();
        valuesOfABridge();
        valuesOfAPort();
        check.finish();
    }

    private static void vector(BridgeAuction x, int bridge, int root, int cost, int age, int link) {
        String name = "at " + x.time() + " bridge " + bridge;
        check.due(name + " root", x.bridge(bridge, 1), root);
        check.due(name + " cost", x.bridge(bridge, 2), cost);
        check.due(name + " age", x.bridge(bridge, 3), age);
        check.due(name + " root link", x.bridge(bridge, 4), link);
    }

    private static void port(BridgeAuction x, int link, boolean higher, int role, int state, int timer) {
        String name = "at " + x.time() + " link " + link + (higher ? " higher" : " lower");
        check.due(name + " role", x.port(link, higher, 0), role);
        check.due(name + " state", x.port(link, higher, 1), state);
        check.due(name + " timer", x.port(link, higher, 2), timer);
    }

    /** "ticks: 1 to 200" */
    private static void leastAndGreatestTicks() {
        BridgeAuction x = new BridgeAuction();
        check.due("time", x.time(), 0);
        check.due("tick(1)", x.tick(1), 1);
        check.due("tick(200)", x.tick(200), 201);
        check.due("time", x.time(), 201);
    }

    private static void ticksOutOfRange() {
        BridgeAuction x = new BridgeAuction();
        int[] outside = {0, 201, -1, Integer.MIN_VALUE, Integer.MAX_VALUE};
        for (int ticks : outside) {
            check.refused("tick(" + ticks + ")", x, ARGUMENT, () -> x.tick(ticks));
        }
        check.due("time", x.time(), 0);
    }

    /** "An object is used for at most 512 calls": no more ticks than these can pass in it. */
    private static void theLongestLife() {
        BridgeAuction x = new BridgeAuction();
        x.addLink(0, 1, 1);
        Check.type(x, "tick 200;".repeat(13));
        int calls = 1 + 117;
        int time = 0;
        while (calls + 5 < 512) {
            check.due("run", x.run(), 13);
            time += 13 * 200;
            calls++;
        }
        check.due("time", x.time(), time);
        check.due("auctions", x.count(0), time / 10);
        port(x, 0, true, ROOT, FORWARDING, 0);
    }

    /** "At first, and when it is started anew, this is its own id, 0, 0, none." */
    private static void firstVectors() {
        BridgeAuction x = new BridgeAuction();
        x.setBridges(8);
        for (int bridge = 0; bridge < 8; bridge++) {
            vector(x, bridge, 50 + bridge, 0, 0, NONE);
        }
        x.setPriority(7, 0);
        vector(x, 7, 7, 0, 0, NONE);
    }

    /** "In a tick all bridges find new vectors at the same time, from the vectors of the tick before." */
    private static void vectorsOfTheTickBefore() {
        BridgeAuction up = new BridgeAuction();
        up.addLink(0, 1, 1);
        up.addLink(1, 2, 1);
        up.tick(1);
        vector(up, 2, 51, 1, 1, 1);
        up.tick(1);
        vector(up, 2, 50, 2, 2, 1);
        BridgeAuction down = new BridgeAuction();
        down.setPriority(2, 0);
        down.addLink(1, 2, 1);
        down.addLink(0, 1, 1);
        down.tick(1);
        vector(down, 0, 50, 0, 0, NONE);
        vector(down, 1, 2, 1, 1, 0);
        down.tick(1);
        vector(down, 0, 2, 2, 2, 1);
    }

    /** "the age of the vector of the bridge at the other end is less than 10" */
    private static void ageNineGoesOnAndAgeTenDoesNot() {
        BridgeAuction x = new BridgeAuction();
        x.addLink(0, 1, 1);
        x.addLink(1, 2, 1);
        x.tick(2);
        vector(x, 1, 50, 1, 1, 0);
        vector(x, 2, 50, 2, 2, 1);
        // Both keep the root that is gone, each by the other, until one of them is ten ticks old.
        x.fail(0);
        x.tick(7);
        vector(x, 1, 50, 9, 9, 1);
        vector(x, 2, 50, 8, 8, 1);
        x.tick(1);
        vector(x, 1, 50, 9, 9, 1);
        vector(x, 2, 50, 10, 10, 1);
        x.tick(1);
        vector(x, 1, 51, 0, 0, NONE);
        vector(x, 2, 50, 10, 10, 1);
        x.tick(1);
        vector(x, 1, 51, 0, 0, NONE);
        vector(x, 2, 51, 1, 1, 1);
    }

    private static void theFarthestOfEightBridges() {
        BridgeAuction x = new BridgeAuction();
        x.setBridges(8);
        for (int bridge = 0; bridge < 7; bridge++) {
            x.addLink(bridge, bridge + 1, 100);
        }
        x.tick(6);
        vector(x, 7, 51, 600, 6, 6);
        x.tick(1);
        vector(x, 7, 50, 700, 7, 6);
        x.tick(100);
        vector(x, 7, 50, 700, 7, 6);
    }

    /** "for each link that is up" */
    private static void linksThatAreDownAreNoCandidates() {
        BridgeAuction x = new BridgeAuction();
        x.addLink(0, 1, 1);
        x.addLink(0, 1, 9);
        x.fail(0);
        x.tick(1);
        vector(x, 1, 50, 9, 1, 1);
        x.fix(0);
        x.tick(1);
        vector(x, 1, 50, 1, 1, 0);
        x.fail(0);
        x.fail(1);
        x.tick(1);
        vector(x, 1, 51, 0, 0, NONE);
    }

    /** "The new vector is the candidate with the least root id; among those, the one with the least cost" */
    private static void leastRootBeforeLeastCost() {
        BridgeAuction x = new BridgeAuction();
        x.addLink(1, 2, 1);
        x.addLink(0, 2, 100);
        x.tick(1);
        vector(x, 2, 50, 100, 1, 1);
    }

    private static void leastCostBeforeLeastId() {
        BridgeAuction x = new BridgeAuction();
        x.addLink(0, 1, 2);
        x.addLink(0, 2, 2);
        x.addLink(1, 3, 2);
        x.addLink(2, 3, 1);
        x.tick(2);
        vector(x, 3, 50, 3, 2, 3);
    }

    /** "then the one with the least id of the bridge at the other end" */
    private static void leastIdBeforeLowestLink() {
        BridgeAuction x = new BridgeAuction();
        x.setPriority(0, 0);
        x.setPriority(2, 4);
        x.addLink(1, 3, 2);
        x.addLink(2, 3, 2);
        x.addLink(0, 1, 2);
        x.addLink(0, 2, 2);
        x.tick(2);
        vector(x, 3, 0, 4, 2, 1);
    }

    /** "then the one with the lowest number of the link" */
    private static void lowestLinkAmongEqualOnes() {
        BridgeAuction x = new BridgeAuction();
        x.addLink(0, 1, 4);
        x.addLink(1, 0, 3);
        x.addLink(0, 1, 3);
        x.addLink(1, 0, 3);
        x.tick(1);
        vector(x, 1, 50, 3, 1, 1);
        x.fail(1);
        x.tick(1);
        vector(x, 1, 50, 3, 1, 2);
    }

    /** "(the own vector counts with the own id)": its own id comes back, but at a cost. */
    private static void theRootKeepsItsOwnVector() {
        BridgeAuction x = new BridgeAuction();
        x.addLink(0, 1, 1);
        x.addLink(0, 1, 1);
        for (int i = 0; i < 5; i++) {
            x.tick(1);
            vector(x, 0, 50, 0, 0, NONE);
        }
    }

    /** "The delay is from 1 to 20, 3 at first." */
    private static void everyTickOfTheLeastAndTheGreatestDelay() {
        int[] delays = {1, 2, 3, 20};
        for (int delay : delays) {
            BridgeAuction x = new BridgeAuction();
            x.setTimes(delay, 100, 5);
            x.addLink(0, 1, 3);
            port(x, 0, false, ALTERNATE, BLOCKING, 0);
            for (int time = 1; time <= 2 * delay + 3; time++) {
                x.tick(1);
                int state = time <= delay ? LISTENING : time <= 2 * delay ? LEARNING : FORWARDING;
                int timer = state == FORWARDING ? 0 : delay - (time - 1) % delay;
                port(x, 0, false, DESIGNATED, state, timer);
                port(x, 0, true, ROOT, state, timer);
                check.due("carries", x.link(0, 7), state == FORWARDING ? 1 : 0);
            }
        }
    }

    /** "A port with the role ALTERNATE becomes BLOCKING at once, with the timer 0." */
    private static void alternateFromEveryStateAtOnce() {
        int[] states = {LISTENING, LEARNING, FORWARDING};
        for (int i = 0; i < states.length; i++) {
            BridgeAuction x = new BridgeAuction();
            x.addLink(0, 1, 3);
            x.tick(2 + 3 * i);
            check.due("state before", x.port(0, true, 1), states[i]);
            x.fail(0);
            check.due("state before the tick", x.port(0, true, 1), states[i]);
            x.tick(1);
            port(x, 0, false, ALTERNATE, BLOCKING, 0);
            port(x, 0, true, ALTERNATE, BLOCKING, 0);
            x.fix(0);
            port(x, 0, true, ALTERNATE, BLOCKING, 0);
            x.tick(1);
            port(x, 0, true, ROOT, LISTENING, 3);
        }
    }

    private static void alternateOfALinkThatIsUp() {
        BridgeAuction x = new BridgeAuction();
        x.addLink(0, 1, 3);
        x.tick(8);
        x.addLink(0, 1, 2);
        x.tick(1);
        port(x, 0, false, DESIGNATED, FORWARDING, 0);
        port(x, 0, true, ALTERNATE, BLOCKING, 0);
        port(x, 1, false, DESIGNATED, LISTENING, 3);
        port(x, 1, true, ROOT, LISTENING, 3);
    }

    /** "otherwise, if it is LISTENING or LEARNING, its timer decreases by 1" */
    private static void anotherRoleDoesNotStopATimer() {
        BridgeAuction x = new BridgeAuction();
        x.addLink(0, 1, 3);
        x.tick(2);
        port(x, 0, false, DESIGNATED, LISTENING, 2);
        x.setPriority(1, 0);
        x.tick(1);
        port(x, 0, false, ROOT, LISTENING, 1);
        port(x, 0, true, DESIGNATED, LISTENING, 1);
        x.tick(1);
        port(x, 0, false, ROOT, LEARNING, 3);
    }

    /** "if (root id, cost, id) of its bridge comes before (root id, cost, id) of the bridge at the other end" */
    private static void designatedByRootThenCostThenId() {
        BridgeAuction root = new BridgeAuction();
        root.addLink(0, 1, 10);
        root.addLink(1, 2, 5);
        root.addLink(1, 2, 7);
        root.tick(1);
        check.due("the lower root, the greater cost", root.port(2, false, 0), DESIGNATED);
        check.due("the higher root, the lower cost", root.port(2, true, 0), ALTERNATE);
        BridgeAuction cost = new BridgeAuction();
        cost.addLink(0, 1, 9);
        cost.addLink(0, 2, 8);
        cost.addLink(1, 2, 20);
        cost.tick(2);
        check.due("the greater cost, the lower id", cost.port(2, false, 0), ALTERNATE);
        check.due("the lower cost, the higher id", cost.port(2, true, 0), DESIGNATED);
        BridgeAuction id = new BridgeAuction();
        id.setPriority(1, 6);
        id.addLink(0, 1, 9);
        id.addLink(0, 2, 9);
        id.addLink(1, 2, 20);
        id.tick(2);
        check.due("the higher id, the lower number", id.port(2, false, 0), ALTERNATE);
        check.due("the lower id, the higher number", id.port(2, true, 0), DESIGNATED);
    }

    /** "A link carries frames if it is up and both of its ports are FORWARDING." */
    private static void oneEndAloneDoesNotCarry() {
        BridgeAuction x = new BridgeAuction();
        x.addLink(0, 1, 3);
        x.addLink(0, 1, 4);
        x.tick(7);
        port(x, 1, false, DESIGNATED, FORWARDING, 0);
        port(x, 1, true, ALTERNATE, BLOCKING, 0);
        check.due("one end alone", x.link(1, 7), 0);
        check.due("both ends", x.link(0, 7), 1);
        check.due("links that carry", x.count(5), 1);
        // The other way round: the higher end forwards.
        BridgeAuction y = new BridgeAuction();
        y.setPriority(1, 0);
        y.addLink(0, 1, 3);
        y.addLink(0, 1, 4);
        y.tick(7);
        port(y, 1, true, DESIGNATED, FORWARDING, 0);
        port(y, 1, false, ALTERNATE, BLOCKING, 0);
        check.due("the other end alone", y.link(1, 7), 0);
    }

    private static void aLinkThatIsDownDoesNotCarry() {
        BridgeAuction x = new BridgeAuction();
        x.addLink(0, 1, 3);
        x.tick(7);
        check.due("carries", x.link(0, 7), 1);
        x.fail(0);
        check.due("both of its ports forward", x.port(0, false, 1) + x.port(0, true, 1), 2 * FORWARDING);
        check.due("but it is down", x.link(0, 7), 0);
        check.due("links that carry", x.count(5), 0);
        x.fix(0);
        check.due("and carries again without a tick", x.link(0, 7), 1);
    }

    /** "(This counts as one topology change for each such port.)" */
    private static void changesAreCountedByPort() {
        BridgeAuction x = new BridgeAuction();
        x.addLink(0, 1, 3);
        x.tick(6);
        check.due("listening and learning", x.count(1), 0);
        x.tick(1);
        check.due("both have become FORWARDING", x.count(1), 2);
        x.addLink(0, 1, 2);
        x.tick(1);
        check.due("one is not any more", x.count(1), 3);
        x.fail(1);
        check.due("a failure is no change yet", x.count(1), 3);
        x.tick(1);
        check.due("nor is the end of listening", x.count(1), 3);
        x.fail(0);
        x.tick(1);
        check.due("the last one that forwarded", x.count(1), 4);
        x.fix(0);
        x.tick(4);
        check.due("learning", x.port(0, false, 1), LEARNING);
        x.fail(0);
        x.tick(1);
        check.due("the end of learning", x.count(1), 4);
    }

    private static void learningFlushesNothing() {
        BridgeAuction x = new BridgeAuction();
        x.send(0, 1);
        x.send(1, 0);
        x.addLink(0, 1, 3);
        x.tick(6);
        check.due("learning", x.port(0, false, 1), LEARNING);
        check.due("entries of 0", x.bridge(0, 5), 1);
        check.due("entries of 1", x.bridge(1, 5), 1);
        x.tick(1);
        check.due("entries of 0 then", x.bridge(0, 5), 0);
        check.due("entries of 1 then", x.bridge(1, 5), 0);
        x.send(0, 1);
        x.tick(20);
        check.due("ports that go on to forward flush nothing", x.bridge(1, 5), 1);
    }

    /** "the tables of its bridge, and of all bridges that can be reached from it by links that carry frames" */
    private static void theBridgeItselfIsFlushed() {
        BridgeAuction x = new BridgeAuction();
        x.addLink(0, 1, 3);
        x.addLink(0, 1, 4);
        x.tick(6);
        x.send(0, 1);
        x.send(1, 0);
        x.fail(0);
        x.fail(1);
        x.tick(1);
        check.due("no port has forwarded", x.bridge(0, 5) + x.bridge(1, 5), 2);
        x.fix(1);
        x.tick(7);
        check.due("both forward", x.link(1, 7), 1);
        check.due("both are flushed", x.bridge(0, 5) + x.bridge(1, 5), 0);
        x.send(0, 1);
        x.fail(1);
        x.tick(1);
        check.due("no link carries, and both are flushed", x.bridge(0, 5) + x.bridge(1, 5), 0);
    }

    private static void bridgesThatAreNotReachedAreNotFlushed() {
        BridgeAuction x = new BridgeAuction();
        x.setBridges(6);
        x.setTimes(1, 100, 5);
        x.addLink(0, 1, 1);
        x.addLink(1, 2, 1);
        x.addLink(3, 4, 1);
        x.tick(10);
        for (int host = 0; host < 6; host++) {
            x.send(host, (host + 1) % 6);
        }
        x.addLink(1, 2, 2);
        x.tick(3);
        // Only the port at bridge 1 has become FORWARDING; 0 and 2 are reached from it.
        port(x, 3, false, DESIGNATED, FORWARDING, 0);
        port(x, 3, true, ALTERNATE, BLOCKING, 0);
        check.due("changes", x.count(1), 7);
        for (int bridge = 0; bridge < 3; bridge++) {
            check.due("reached: " + bridge, x.bridge(bridge, 5), 0);
        }
        check.due("not reached: 3", x.bridge(3, 5) > 0, true);
        check.due("not reached: 4", x.bridge(4, 5) > 0, true);
        check.due("not reached: 5", x.bridge(5, 5), 1);
    }

    /** "If in a tick some port has become FORWARDING": a change of another tick is none of this one. */
    private static void portsOfAnEarlierTickFlushNothing() {
        for (int first = 0; first <= 2; first += 2) {
            int other = 2 - first;
            BridgeAuction x = new BridgeAuction();
            x.addLink(first, first + 1, 1);
            x.tick(2);
            x.addLink(other, other + 1, 1);
            x.tick(5);
            check.due("the first two forward", x.count(1), 2);
            for (int host = 0; host < 4; host++) {
                x.send(host, (host + 1) % 4);
            }
            int entries = x.bridge(first, 5) + x.bridge(first + 1, 5);
            x.tick(2);
            check.due("the other two forward", x.count(1), 4);
            check.due("the other two are flushed", x.bridge(other, 5) + x.bridge(other + 1, 5), 0);
            check.due("the first two are not", x.bridge(first, 5) + x.bridge(first + 1, 5), entries);
        }
    }

    /** "what: 0 id, .. 5 number of entries of its table" */
    private static void valuesOfABridge() {
        BridgeAuction x = Recipe.busy();
        int[] due = {52, 50, 12, 2, 1, 2};
        for (int what = 0; what < 6; what++) {
            check.due("bridge(2, " + what + ")", x.bridge(2, what), due[what]);
        }
        check.refused("bridge(2, 6)", x, ARGUMENT, () -> x.bridge(2, 6));
        check.refused("bridge(2, -1)", x, ARGUMENT, () -> x.bridge(2, -1));
        check.refused("bridge(4, 6)", x, INDEX, () -> x.bridge(4, 6));
        check.refused("bridge(-1, -1)", x, INDEX, () -> x.bridge(-1, -1));
    }

    /** "what: 0 role, 1 state, 2 timer" */
    private static void valuesOfAPort() {
        BridgeAuction x = new BridgeAuction();
        x.addLink(0, 1, 1);
        x.addLink(0, 1, 2);
        x.tick(1);
        port(x, 1, false, DESIGNATED, LISTENING, 3);
        port(x, 1, true, ALTERNATE, BLOCKING, 0);
        check.refused("port(1, true, 3)", x, ARGUMENT, () -> x.port(1, true, 3));
        check.refused("port(1, false, -1)", x, ARGUMENT, () -> x.port(1, false, -1));
        check.refused("port(2, true, 3)", x, INDEX, () -> x.port(2, true, 3));
        check.refused("port(-1, false, -1)", x, INDEX, () -> x.port(-1, false, -1));
    }
}
