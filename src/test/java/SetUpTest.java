/** Promises 1 to 10 and 15: a new object, and the calls that set up the network. */
final class SetUpTest {
    private static final Check check = new Check();
    private static final Class<IndexOutOfBoundsException> INDEX = IndexOutOfBoundsException.class;
    private static final Class<IllegalArgumentException> ARGUMENT = IllegalArgumentException.class;
    private static final Class<IllegalStateException> STATE = IllegalStateException.class;

    public static void main(String[] args) {
        newObject();
        setBridges();
        setTimes();
        setPriority();
        addLink();
        failAndFix();
        moveHost();
        bid();
        grant();
        check.finish();
    }

    private static void newObject() {
        BridgeAuction x = new BridgeAuction();
        check.due("time", x.time(), 0);
        check.due("links", x.links(), 0);
        check.due("script", x.clearScript(), 0);
        for (int b = 0; b < 4; b++) {
            check.due("id", x.bridge(b, 0), 50 + b);
            check.due("root", x.bridge(b, 1), 50 + b);
            check.due("cost", x.bridge(b, 2), 0);
            check.due("age", x.bridge(b, 3), 0);
            check.due("root link", x.bridge(b, 4), BridgeAuction.NONE);
            check.due("entries", x.bridge(b, 5), 0);
            for (int h = 0; h < 8; h++) {
                check.due("entry", x.entry(b, h), BridgeAuction.NONE);
            }
        }
        for (int t = 0; t < 4; t++) {
            check.due("credits", x.tenant(t, 0), 100);
            check.due("won, paid, got back", x.tenant(t, 1) + x.tenant(t, 2) + x.tenant(t, 3), 0);
        }
        for (int what = 0; what < 7; what++) {
            check.due("count " + what, x.count(what), 0);
        }
        check.due("isForest", x.isForest(), true);
        check.refused("undo", x, STATE, () -> x.undo());
        check.refused("bridge(4, 0)", x, INDEX, () -> x.bridge(4, 0));
        for (int h = 0; h < 8; h++) {
            check.due("moveHost(" + h + ", 0)", x.moveHost(h, 0), h % 4);
        }
        check.due("setTimes", x.setTimes(1, 5, 0), 10);
    }

    private static void setBridges() {
        BridgeAuction x = new BridgeAuction();
        x.setTimes(1, 7, 9);
        BridgeAuction y = new BridgeAuction();
        y.setTimes(1, 7, 9);
        x.setPriority(0, 3);
        x.addLink(0, 1, 4);
        x.bid(2, 0, 9);
        x.grant(1, 50);
        x.moveHost(3, 0);
        x.moveHost(0, 3);
        x.bid(0, 0, 1);
        x.tick(14);
        x.send(0, 1);
        x.fail(0);
        check.due("setBridges(4)", x.setBridges(4), 4);
        x.undo();
        check.due("undone: time", x.time(), 14);
        check.due("undone: links", x.links(), 1);
        check.due("setBridges(5)", x.setBridges(5), 4);
        check.due("setBridges(4)", x.setBridges(4), 5);
        y.setBridges(5);
        y.setBridges(4);
        check.due("the same as a new one with these times", x.digest(), y.digest());
        check.due("credits", x.tenant(1, 0), 100);
        check.due("paid and got back", x.tenant(2, 2) + x.tenant(2, 3), 0);
        x.addLink(0, 1, 4);
        check.due("no bid is left", x.bidOf(2, 0), 0);
        check.due("interval stays", x.setTimes(1, 7, 9), 7);
        check.due("setBridges(2)", x.setBridges(2), 4);
        check.due("host 7 of 2", x.moveHost(7, 0), 1);
        check.refused("bridge(2, 0)", x, INDEX, () -> x.bridge(2, 0));
        check.due("setBridges(8)", x.setBridges(8), 2);
        check.due("host 7 of 8", x.moveHost(7, 0), 7);
        check.due("id of bridge 7", x.bridge(7, 0), 57);
        check.refused("setBridges(1)", x, ARGUMENT, () -> x.setBridges(1));
        check.refused("setBridges(9)", x, ARGUMENT, () -> x.setBridges(9));
        check.refused("setBridges(-1)", x, ARGUMENT, () -> x.setBridges(-1));
        check.refused("setBridges(max)", x, ARGUMENT, () -> x.setBridges(Integer.MAX_VALUE));
    }

    private static void setTimes() {
        BridgeAuction x = new BridgeAuction();
        check.due("setTimes(20, 100, 100)", x.setTimes(20, 100, 100), 10);
        check.due("setTimes(1, 5, 0)", x.setTimes(1, 5, 0), 100);
        check.due("setTimes(3, 10, 5)", x.setTimes(3, 10, 5), 5);
        int[][] bad = {{0, 5, 0}, {21, 5, 0}, {1, 4, 0}, {1, 101, 0}, {1, 5, -1}, {1, 5, 101}, {-1, -1, -1}};
        for (int[] t : bad) {
            check.refused("setTimes", x, ARGUMENT, () -> x.setTimes(t[0], t[1], t[2]));
        }
        x.addLink(0, 1, 1);
        x.tick(1);
        x.setTimes(7, 10, 5);
        check.due("a timer that runs goes on", x.port(0, false, 2), 3);
        x.tick(3);
        check.due("state", x.port(0, false, 1), BridgeAuction.LEARNING);
        check.due("the next timer has the new delay", x.port(0, false, 2), 7);
    }

    private static void setPriority() {
        BridgeAuction x = new BridgeAuction();
        x.addLink(0, 1, 4);
        x.tick(8);
        x.send(0, 1);
        check.due("setPriority(1, 9)", x.setPriority(1, 9), 5);
        check.due("id", x.bridge(1, 0), 91);
        check.due("root", x.bridge(1, 1), 91);
        check.due("cost", x.bridge(1, 2), 0);
        check.due("age", x.bridge(1, 3), 0);
        check.due("root link", x.bridge(1, 4), BridgeAuction.NONE);
        check.due("role stays", x.port(0, true, 0), BridgeAuction.ROOT);
        check.due("state stays", x.port(0, true, 1), BridgeAuction.FORWARDING);
        check.due("table stays", x.entry(1, 0), 0);
        x.tick(1);
        check.due("root link after a tick", x.bridge(1, 4), 0);
        check.due("setPriority(1, 9) again", x.setPriority(1, 9), 9);
        check.due("the vector begins anew even so", x.bridge(1, 1), 91);
        check.due("setPriority(1, 0)", x.setPriority(1, 0), 9);
        check.due("id", x.bridge(1, 0), 1);
        check.refused("setPriority(4, 10)", x, INDEX, () -> x.setPriority(4, 10));
        check.refused("setPriority(-1, 0)", x, INDEX, () -> x.setPriority(-1, 0));
        check.refused("setPriority(3, 10)", x, ARGUMENT, () -> x.setPriority(3, 10));
        check.refused("setPriority(3, -1)", x, ARGUMENT, () -> x.setPriority(3, -1));
    }

    private static void addLink() {
        BridgeAuction x = new BridgeAuction();
        check.due("addLink(3, 1, 100)", x.addLink(3, 1, 100), 0);
        check.due("addLink(1, 3, 1)", x.addLink(1, 3, 1), 1);
        check.due("links", x.links(), 2);
        int[] want = {1, 3, 100, 100, 1, BridgeAuction.NONE, 0, 0, 0};
        for (int what = 0; what < 9; what++) {
            check.due("link(0, " + what + ")", x.link(0, what), want[what]);
        }
        for (int side = 0; side < 2; side++) {
            boolean higher = side == 1;
            check.due("role", x.port(0, higher, 0), BridgeAuction.ALTERNATE);
            check.due("state", x.port(0, higher, 1), BridgeAuction.BLOCKING);
            check.due("timer", x.port(0, higher, 2), 0);
        }
        check.refused("addLink(4, 4, 0)", x, INDEX, () -> x.addLink(4, 4, 0));
        check.refused("addLink(0, 4, 1)", x, INDEX, () -> x.addLink(0, 4, 1));
        check.refused("addLink(4, 0, 1)", x, INDEX, () -> x.addLink(4, 0, 1));
        check.refused("addLink(-1, 0, 1)", x, INDEX, () -> x.addLink(-1, 0, 1));
        check.refused("addLink(0, -1, 1)", x, INDEX, () -> x.addLink(0, -1, 1));
        check.refused("addLink(2, 2, 1)", x, ARGUMENT, () -> x.addLink(2, 2, 1));
        check.refused("addLink(0, 1, 0)", x, ARGUMENT, () -> x.addLink(0, 1, 0));
        check.refused("addLink(0, 1, 101)", x, ARGUMENT, () -> x.addLink(0, 1, 101));
        for (int l = 2; l < 16; l++) {
            check.due("addLink", x.addLink(0, 1, l), l);
        }
        check.refused("the 17th link", x, STATE, () -> x.addLink(0, 1, 1));
        check.refused("the 17th link, wrong cost", x, ARGUMENT, () -> x.addLink(0, 1, 0));
        check.refused("the 17th link, wrong bridge", x, INDEX, () -> x.addLink(0, 9, 1));
        // A link that is added where a used one was undone begins as new.
        BridgeAuction y = new BridgeAuction();
        y.addLink(0, 1, 5);
        y.tick(9);
        y.undo();
        y.undo();
        check.due("addLink again", y.addLink(0, 1, 5), 0);
        check.due("role again", y.port(0, false, 0), BridgeAuction.ALTERNATE);
        check.due("state again", y.port(0, false, 1), BridgeAuction.BLOCKING);
    }

    private static void failAndFix() {
        BridgeAuction x = new BridgeAuction();
        x.addLink(0, 1, 5);
        x.addLink(1, 2, 5);
        x.tick(9);
        check.due("carries", x.link(0, 7), 1);
        check.due("fail(0)", x.fail(0), 0);
        check.due("up", x.link(0, 4), 0);
        check.due("carries no more", x.link(0, 7), 0);
        check.due("the port stays until the tick", x.port(0, false, 1), BridgeAuction.FORWARDING);
        check.refused("fail(0) again", x, STATE, () -> x.fail(0));
        check.refused("fix(1)", x, STATE, () -> x.fix(1));
        check.refused("fail(2)", x, INDEX, () -> x.fail(2));
        check.refused("fix(2)", x, INDEX, () -> x.fix(2));
        check.refused("fail(-1)", x, INDEX, () -> x.fail(-1));
        check.refused("fix(-1)", x, INDEX, () -> x.fix(-1));
        check.due("fail(1)", x.fail(1), 0);
        check.due("fix(0)", x.fix(0), 1);
        check.due("carries again, without a tick", x.link(0, 7), 1);
        check.due("fix(1)", x.fix(1), 2);
        x.fail(1);
        x.tick(1);
        check.due("role when down", x.port(1, false, 0), BridgeAuction.ALTERNATE);
        check.due("state when down", x.port(1, true, 1), BridgeAuction.BLOCKING);
    }

    private static void moveHost() {
        BridgeAuction x = new BridgeAuction();
        check.due("moveHost(7, 0)", x.moveHost(7, 0), 3);
        check.due("moveHost(7, 3)", x.moveHost(7, 3), 0);
        check.due("moveHost(7, 3)", x.moveHost(7, 3), 3);
        check.refused("moveHost(8, 0)", x, INDEX, () -> x.moveHost(8, 0));
        check.refused("moveHost(-1, 0)", x, INDEX, () -> x.moveHost(-1, 0));
        check.refused("moveHost(0, 4)", x, INDEX, () -> x.moveHost(0, 4));
        check.refused("moveHost(0, -1)", x, INDEX, () -> x.moveHost(0, -1));
    }

    private static void bid() {
        BridgeAuction x = new BridgeAuction();
        x.addLink(0, 1, 1);
        x.addLink(0, 2, 1);
        check.due("bid(3, 1, 1000)", x.bid(3, 1, 1000), 0);
        check.due("bid(3, 1, 0)", x.bid(3, 1, 0), 1000);
        check.due("bid(3, 1, 7)", x.bid(3, 1, 7), 0);
        check.due("bidOf(3, 1)", x.bidOf(3, 1), 7);
        check.due("bidOf(3, 0)", x.bidOf(3, 0), 0);
        check.due("bidOf(2, 1)", x.bidOf(2, 1), 0);
        check.refused("bid(4, 0, 1001)", x, INDEX, () -> x.bid(4, 0, 1001));
        check.refused("bid(-1, 0, 0)", x, INDEX, () -> x.bid(-1, 0, 0));
        check.refused("bid(0, 2, 0)", x, INDEX, () -> x.bid(0, 2, 0));
        check.refused("bid(0, -1, 0)", x, INDEX, () -> x.bid(0, -1, 0));
        check.refused("bid(0, 0, 1001)", x, ARGUMENT, () -> x.bid(0, 0, 1001));
        check.refused("bid(0, 0, -1)", x, ARGUMENT, () -> x.bid(0, 0, -1));
        check.refused("bidOf(4, 0)", x, INDEX, () -> x.bidOf(4, 0));
        check.refused("bidOf(-1, 0)", x, INDEX, () -> x.bidOf(-1, 0));
        check.refused("bidOf(0, 2)", x, INDEX, () -> x.bidOf(0, 2));
        check.refused("bidOf(0, -1)", x, INDEX, () -> x.bidOf(0, -1));
    }

    private static void grant() {
        BridgeAuction x = new BridgeAuction();
        check.due("grant(0, 0)", x.grant(0, 0), 100);
        check.due("grant(0, 10000)", x.grant(0, 10000), 10100);
        check.refused("grant(4, -1)", x, INDEX, () -> x.grant(4, -1));
        check.refused("grant(-1, 0)", x, INDEX, () -> x.grant(-1, 0));
        check.refused("grant(0, 10001)", x, ARGUMENT, () -> x.grant(0, 10001));
        check.refused("grant(0, -1)", x, ARGUMENT, () -> x.grant(0, -1));
        for (int i = 2; i < 100; i++) {
            check.due("grant(0, 10000)", x.grant(0, 10000), 10000 * i + 100);
        }
        check.refused("grant over a million", x, STATE, () -> x.grant(0, 9901 + 99));
        check.refused("grant one over a million", x, STATE, () -> x.grant(0, 9901));
        check.refused("grant of too much", x, ARGUMENT, () -> x.grant(0, 10001));
        check.due("grant up to a million", x.grant(0, 9900), 1000000);
        check.refused("grant(0, 1)", x, STATE, () -> x.grant(0, 1));
        check.due("grant(0, 0)", x.grant(0, 0), 1000000);
        check.due("another tenant", x.tenant(1, 0), 100);
        check.due("grant(3, 5)", x.grant(3, 5), 105);
    }
}
