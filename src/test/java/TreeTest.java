/** Promises 11, 12, 14 and 17: ticks, vectors, ports, and the flushing of tables. */
final class TreeTest {
    private static final Check check = new Check();
    private static final int NONE = BridgeAuction.NONE;

    public static void main(String[] args) {
        ticks();
        vectorsMoveOneLinkATick();
        oldVectorsDie();
        tiesGoToTheLowerIdThenTheLowerLink();
        costComesBeforeIds();
        portStates();
        roles();
        flushing();
        flushingIsByTheLinksThatCarryAtTheEnd();
        wrongValues();
        check.finish();
    }

    private static void ticks() {
        BridgeAuction x = new BridgeAuction();
        check.due("tick(1)", x.tick(1), 1);
        check.due("tick(200)", x.tick(200), 201);
        check.due("time", x.time(), 201);
        Class<IllegalArgumentException> argument = IllegalArgumentException.class;
        check.refused("tick(0)", x, argument, () -> x.tick(0));
        check.refused("tick(-1)", x, argument, () -> x.tick(-1));
        check.refused("tick(201)", x, argument, () -> x.tick(201));
        // Many ticks at once are the same as one by one.
        BridgeAuction y = new BridgeAuction();
        for (int i = 0; i < 201; i++) {
            y.tick(1);
        }
        x.grant(0, 0);
        y.grant(0, 0);
        check.due("digest", x.digest(), y.digest());
    }

    private static void vector(BridgeAuction x, int bridge, int root, int cost, int age, int link) {
        String name = "at " + x.time() + " bridge " + bridge;
        check.due(name + " root", x.bridge(bridge, 1), root);
        check.due(name + " cost", x.bridge(bridge, 2), cost);
        check.due(name + " age", x.bridge(bridge, 3), age);
        check.due(name + " root link", x.bridge(bridge, 4), link);
    }

    private static void vectorsMoveOneLinkATick() {
        BridgeAuction x = new BridgeAuction();
        x.addLink(3, 2, 30);
        x.addLink(2, 1, 20);
        x.addLink(1, 0, 10);
        x.tick(1);
        vector(x, 0, 50, 0, 0, NONE);
        vector(x, 1, 50, 10, 1, 2);
        vector(x, 2, 51, 20, 1, 1);
        vector(x, 3, 52, 30, 1, 0);
        x.tick(1);
        vector(x, 2, 50, 30, 2, 1);
        vector(x, 3, 51, 50, 2, 0);
        x.tick(1);
        vector(x, 3, 50, 60, 3, 0);
        x.tick(1);
        vector(x, 3, 50, 60, 3, 0);
    }

    /** The old id of the root goes to and fro between the two until its age is 10. */
    private static void oldVectorsDie() {
        BridgeAuction x = new BridgeAuction();
        x.setBridges(2);
        x.addLink(0, 1, 3);
        x.tick(1);
        vector(x, 1, 50, 3, 1, 0);
        x.setPriority(0, 9);
        vector(x, 0, 90, 0, 0, NONE);
        x.tick(1);
        vector(x, 0, 50, 6, 2, 0);
        vector(x, 1, 51, 0, 0, NONE);
        x.tick(1);
        vector(x, 0, 51, 3, 1, 0);
        vector(x, 1, 50, 9, 3, 0);
        x.tick(6);
        vector(x, 0, 51, 3, 1, 0);
        vector(x, 1, 50, 27, 9, 0);
        x.tick(1);
        vector(x, 0, 50, 30, 10, 0);
        vector(x, 1, 51, 0, 0, NONE);
        x.tick(1);
        vector(x, 0, 51, 3, 1, 0);
        vector(x, 1, 51, 0, 0, NONE);
    }

    private static void tiesGoToTheLowerIdThenTheLowerLink() {
        BridgeAuction x = new BridgeAuction();
        x.addLink(0, 1, 4);
        x.addLink(0, 2, 4);
        x.addLink(1, 3, 4);
        x.addLink(2, 3, 4);
        x.addLink(3, 2, 4);
        x.tick(3);
        vector(x, 3, 50, 8, 2, 2);
        x.setPriority(1, 6);
        x.tick(3);
        vector(x, 3, 50, 8, 2, 3);
        x.fail(3);
        x.tick(1);
        vector(x, 3, 50, 8, 2, 4);
        x.fail(4);
        x.tick(1);
        vector(x, 3, 50, 8, 2, 2);
    }

    private static void costComesBeforeIds() {
        BridgeAuction x = new BridgeAuction();
        x.addLink(0, 3, 9);
        x.addLink(0, 2, 4);
        x.addLink(2, 3, 4);
        x.tick(3);
        vector(x, 3, 50, 8, 2, 2);
        x.setPriority(3, 4);
        x.tick(9);
        vector(x, 0, 43, 8, 2, 1);
        vector(x, 2, 43, 4, 1, 2);
        vector(x, 1, 51, 0, 0, NONE);
    }

    private static void port(BridgeAuction x, int link, boolean higher, int role, int state, int timer) {
        String name = "at " + x.time() + " link " + link + (higher ? " higher" : " lower");
        check.due(name + " role", x.port(link, higher, 0), role);
        check.due(name + " state", x.port(link, higher, 1), state);
        check.due(name + " timer", x.port(link, higher, 2), timer);
    }

    private static void portStates() {
        BridgeAuction x = new BridgeAuction();
        x.setTimes(2, 10, 5);
        x.addLink(0, 1, 3);
        int[] state = {1, 1, 2, 2, 3, 3};
        int[] timer = {2, 1, 2, 1, 0, 0};
        for (int i = 0; i < 6; i++) {
            x.tick(1);
            port(x, 0, false, BridgeAuction.DESIGNATED, state[i], timer[i]);
            port(x, 0, true, BridgeAuction.ROOT, state[i], timer[i]);
            check.due("carries", x.link(0, 7), state[i] == 3 ? 1 : 0);
        }
        check.due("changes", x.count(1), 2);
        x.fail(0);
        x.tick(1);
        port(x, 0, false, BridgeAuction.ALTERNATE, BridgeAuction.BLOCKING, 0);
        port(x, 0, true, BridgeAuction.ALTERNATE, BridgeAuction.BLOCKING, 0);
        check.due("changes", x.count(1), 4);
        x.fix(0);
        x.tick(3);
        port(x, 0, false, BridgeAuction.DESIGNATED, BridgeAuction.LEARNING, 2);
        x.fail(0);
        x.tick(1);
        port(x, 0, false, BridgeAuction.ALTERNATE, BridgeAuction.BLOCKING, 0);
        check.due("changes", x.count(1), 4);
        x.setTimes(1, 10, 5);
        x.fix(0);
        x.tick(1);
        port(x, 0, true, BridgeAuction.ROOT, BridgeAuction.LISTENING, 1);
        x.tick(1);
        port(x, 0, true, BridgeAuction.ROOT, BridgeAuction.LEARNING, 1);
        x.tick(1);
        port(x, 0, true, BridgeAuction.ROOT, BridgeAuction.FORWARDING, 0);
        // Another role that is no ALTERNATE does not stop a port that forwards.
        x.setPriority(1, 0);
        x.tick(3);
        port(x, 0, true, BridgeAuction.DESIGNATED, BridgeAuction.FORWARDING, 0);
        port(x, 0, false, BridgeAuction.ROOT, BridgeAuction.FORWARDING, 0);
    }

    private static void roles() {
        BridgeAuction x = new BridgeAuction();
        x.addLink(0, 1, 5);
        x.addLink(0, 2, 5);
        x.addLink(1, 2, 5);
        x.addLink(0, 1, 5);
        x.tick(3);
        check.due("link 0 lower", x.port(0, false, 0), BridgeAuction.DESIGNATED);
        check.due("link 0 higher", x.port(0, true, 0), BridgeAuction.ROOT);
        check.due("link 2 lower", x.port(2, false, 0), BridgeAuction.DESIGNATED);
        check.due("link 2 higher", x.port(2, true, 0), BridgeAuction.ALTERNATE);
        check.due("link 3 lower", x.port(3, false, 0), BridgeAuction.DESIGNATED);
        check.due("link 3 higher", x.port(3, true, 0), BridgeAuction.ALTERNATE);
        x.setPriority(1, 6);
        x.tick(3);
        check.due("link 2 lower, by id", x.port(2, false, 0), BridgeAuction.ALTERNATE);
        check.due("link 2 higher, by id", x.port(2, true, 0), BridgeAuction.DESIGNATED);
        x.fail(1);
        x.tick(6);
        check.due("link 2 lower, by cost", x.port(2, false, 0), BridgeAuction.DESIGNATED);
        check.due("link 2 higher, by cost", x.port(2, true, 0), BridgeAuction.ROOT);
    }

    private static void flushing() {
        BridgeAuction x = new BridgeAuction();
        x.setBridges(6);
        x.setTimes(1, 100, 5);
        x.addLink(0, 1, 5);
        x.addLink(1, 2, 5);
        x.addLink(3, 4, 5);
        x.tick(6);
        x.send(0, 2);
        x.send(3, 4);
        x.send(5, 0);
        check.due("entries of 2", x.bridge(2, 5), 1);
        int changes = x.count(1);
        check.due("changes", changes, 6);
        x.addLink(2, 0, 50);
        x.tick(2);
        check.due("not yet", x.bridge(2, 5), 1);
        x.tick(1);
        // The lower end of the new link forwards now; its bridge reaches 1 and 2.
        check.due("changes", x.count(1), 7);
        for (int b = 0; b < 3; b++) {
            check.due("entries of " + b, x.bridge(b, 5), 0);
        }
        check.due("entries of 3", x.bridge(3, 5), 1);
        check.due("entries of 4", x.bridge(4, 5), 1);
        check.due("entries of 5", x.bridge(5, 5), 1);
    }

    private static void flushingIsByTheLinksThatCarryAtTheEnd() {
        BridgeAuction x = new BridgeAuction();
        x.setTimes(1, 100, 5);
        x.addLink(0, 1, 5);
        x.addLink(1, 2, 5);
        x.addLink(2, 3, 5);
        x.tick(6);
        x.send(0, 3);
        x.fail(1);
        check.due("a failure alone flushes nothing", x.bridge(1, 5), 1);
        x.tick(1);
        for (int b = 0; b < 4; b++) {
            check.due("both sides are flushed", x.bridge(b, 5), 0);
        }
        check.due("changes", x.count(1), 8);
        x.send(0, 1);
        x.send(3, 2);
        x.fail(0);
        x.tick(1);
        check.due("this side is flushed", x.bridge(0, 5) + x.bridge(1, 5), 0);
        check.due("the other side is not", x.bridge(2, 5) + x.bridge(3, 5), 2);
    }

    private static void wrongValues() {
        BridgeAuction x = new BridgeAuction();
        x.addLink(0, 1, 1);
        Class<IndexOutOfBoundsException> index = IndexOutOfBoundsException.class;
        Class<IllegalArgumentException> argument = IllegalArgumentException.class;
        check.refused("bridge(4, 6)", x, index, () -> x.bridge(4, 6));
        check.refused("bridge(-1, 0)", x, index, () -> x.bridge(-1, 0));
        check.refused("bridge(0, 6)", x, argument, () -> x.bridge(0, 6));
        check.refused("bridge(0, -1)", x, argument, () -> x.bridge(0, -1));
        check.refused("port(1, true, 3)", x, index, () -> x.port(1, true, 3));
        check.refused("port(-1, false, 0)", x, index, () -> x.port(-1, false, 0));
        check.refused("port(0, true, 3)", x, argument, () -> x.port(0, true, 3));
        check.refused("port(0, false, -1)", x, argument, () -> x.port(0, false, -1));
    }
}
