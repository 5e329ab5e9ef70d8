/** Promises 13, 18, 21 and 22: frames, tables, the counts of frames and paths, and isForest. */
final class FrameTest {
    private static final Check check = new Check();
    private static final int NONE = BridgeAuction.NONE;

    public static void main(String[] args) {
        floodThenForward();
        sameBridge();
        validity();
        entriesThatDoNotServe();
        hostThatMoved();
        ringsAreNeverCycles();
        pairs();
        wrongValues();
        check.finish();
    }

    /** 0 - 1 - 2 - 3 with a branch 1 - 4, all of which carry frames. */
    private static BridgeAuction tree() {
        BridgeAuction x = new BridgeAuction();
        x.setBridges(5);
        x.setTimes(1, 100, 5);
        x.addLink(0, 1, 5);
        x.addLink(1, 2, 5);
        x.addLink(2, 3, 5);
        x.addLink(1, 4, 5);
        x.tick(8);
        return x;
    }

    private static void floodThenForward() {
        BridgeAuction x = tree();
        check.due("carrying", x.count(5), 4);
        check.due("nobody knows 3: flooded", x.send(0, 3), 1004);
        int[] toZero = {100, 0, 1, 2, 3};
        for (int b = 0; b < 5; b++) {
            check.due("entry(" + b + ", 0)", x.entry(b, 0), toZero[b]);
            check.due("entries", x.bridge(b, 5), 1);
        }
        check.due("back by what was learned", x.send(3, 0), 1003);
        check.due("4 has not heard of 3", x.entry(4, 3), NONE);
        check.due("entry(0, 3)", x.entry(0, 3), 0);
        check.due("entry(1, 3)", x.entry(1, 3), 1);
        check.due("entry(3, 3)", x.entry(3, 3), 100);
        check.due("forwarded", x.send(0, 3), 1003);
        check.due("from 4, which has not heard of 3", x.send(4, 3), 1003);
        check.due("sent", x.count(2), 4);
        check.due("delivered", x.count(3), 4);
        check.due("used", x.count(4), 13);
    }

    private static void sameBridge() {
        BridgeAuction x = tree();
        check.due("host 5 is at bridge 0 too", x.send(0, 5), 1000);
        check.due("entry(0, 0)", x.entry(0, 0), 100);
        check.due("entry(0, 5)", x.entry(0, 5), NONE);
        check.due("entry(1, 0)", x.entry(1, 0), NONE);
        check.due("used", x.count(4), 0);
        check.due("delivered", x.count(3), 1);
        BridgeAuction y = new BridgeAuction();
        y.addLink(0, 1, 1);
        check.due("no link carries", y.send(0, 1), 0);
        check.due("sent", y.count(2), 1);
        check.due("delivered", y.count(3), 0);
        check.due("the first bridge learns even so", y.entry(0, 0), 100);
    }

    private static void validity() {
        BridgeAuction x = tree();
        x.send(3, 0);
        x.tick(49);
        check.due("after 49", x.entry(1, 3), 1);
        check.due("forwarded", x.send(0, 3), 1003);
        x.tick(1);
        check.due("after 50", x.entry(1, 3), 1);
        check.due("forwarded", x.send(0, 3), 1003);
        x.tick(1);
        check.due("after 51", x.entry(1, 3), NONE);
        check.due("but it is there", x.bridge(1, 5), 2);
        check.due("flooded", x.send(0, 3), 1004);
        x.send(3, 0);
        check.due("made anew", x.entry(1, 3), 1);
    }

    private static void entriesThatDoNotServe() {
        BridgeAuction x = tree();
        x.send(3, 0);
        x.fail(2);
        check.due("the entry stays", x.entry(2, 3), 2);
        check.due("its link does not carry: flooded", x.send(0, 3), 2);
        x.fix(2);
        // Bridge 1 knows 3 by link 1, but the frame comes by link 1: it goes on by the others.
        x.moveHost(6, 2);
        check.due("flooded at 2, and from 1 to 0 and 4", flood(x), 1004);
        // An entry for the bridge itself is no link.
        BridgeAuction y = tree();
        y.send(0, 3);
        y.moveHost(0, 3);
        check.due("flooded", y.send(5, 0), 1004);
    }

    private static int flood(BridgeAuction x) {
        // Bridge 2 forgets nothing, so host 3 is asked from a bridge that has no entry for it.
        x.moveHost(3, 4);
        x.tick(51);
        x.send(6, 7);
        x.moveHost(7, 3);
        x.send(7, 6);
        x.moveHost(7, 4);
        // Host 7 was last seen at 3: bridge 2 sends by link 2 alone, and the frame is lost.
        check.due("lost", x.send(6, 7), 1);
        x.moveHost(2, 3);
        // From 3 the entry of bridge 2 for 7 is the link by which the frame came.
        return x.send(2, 7);
    }

    private static void hostThatMoved() {
        BridgeAuction x = tree();
        x.send(0, 3);
        x.send(3, 0);
        check.due("moveHost", x.moveHost(3, 4), 3);
        check.due("entry(1, 3)", x.entry(1, 3), 1);
        check.due("to the old place", x.send(0, 3), 3);
        check.due("delivered", x.count(3), 2);
        x.send(3, 0);
        check.due("entry(1, 3) is replaced", x.entry(1, 3), 3);
        check.due("entry(2, 3) is not", x.entry(2, 3), 2);
        check.due("to the new place", x.send(0, 3), 1002);
    }

    /**
     * No run of calls comes to a cycle: a link that carries frames is the root link of one of its
     * bridges and leads to a bridge whose (root id, cost, id) comes before, so a cycle would come
     * before itself. What can be tested is that a ring never tells of one.
     */
    private static void ringsAreNeverCycles() {
        BridgeAuction x = new BridgeAuction();
        x.setBridges(8);
        x.setTimes(1, 100, 5);
        for (int b = 0; b < 8; b++) {
            x.addLink(b, (b + 1) % 8, 1);
            x.addLink(b, (b + 3) % 8, 1);
        }
        for (int i = 0; i < 60; i++) {
            if (i % 15 == 14) {
                x.setPriority(i % 8, i % 7);
            }
            if (i % 11 == 10) {
                x.fail(i % 16);
            }
            x.tick(1);
            check.due("isForest", x.isForest(), true);
            check.due("fewer links carry than there are bridges", x.count(5) < 8, true);
        }
        x.tick(30);
        check.due("carrying", x.count(5), 7);
        check.due("pairs", x.count(6), 28);
    }

    private static void pairs() {
        BridgeAuction x = tree();
        check.due("pairs", x.count(6), 10);
        x.fail(1);
        check.due("0, 1, 4 and 2, 3", x.count(6), 4);
        check.due("carrying", x.count(5), 3);
        x.fail(2);
        check.due("0, 1, 4", x.count(6), 3);
        x.fail(0);
        x.fail(3);
        check.due("none", x.count(6), 0);
        check.due("isForest", x.isForest(), true);
        // Two links between the same bridges are a cycle, if both carry frames.
        BridgeAuction y = new BridgeAuction();
        y.setBridges(4);
        y.setTimes(1, 100, 5);
        y.addLink(0, 1, 1);
        y.addLink(0, 1, 1);
        y.tick(8);
        check.due("one of them carries", y.count(5), 1);
        check.due("isForest", y.isForest(), true);
    }

    private static void wrongValues() {
        BridgeAuction x = tree();
        Class<IndexOutOfBoundsException> index = IndexOutOfBoundsException.class;
        check.refused("send(8, 8)", x, index, () -> x.send(8, 8));
        check.refused("send(-1, 0)", x, index, () -> x.send(-1, 0));
        check.refused("send(0, 8)", x, index, () -> x.send(0, 8));
        check.refused("send(0, -1)", x, index, () -> x.send(0, -1));
        check.refused("send(7, 7)", x, IllegalArgumentException.class, () -> x.send(7, 7));
        check.refused("entry(5, 0)", x, index, () -> x.entry(5, 0));
        check.refused("entry(-1, 0)", x, index, () -> x.entry(-1, 0));
        check.refused("entry(0, 8)", x, index, () -> x.entry(0, 8));
        check.refused("entry(0, -1)", x, index, () -> x.entry(0, -1));
    }
}
