/** Promises 26 and 27: the undo stack, and the digest. */
final class UndoTest {
    private static final Check check = new Check();

    public static void main(String[] args) {
        everyUndoableCall();
        everyRowComesBack();
        depth();
        scriptStays();
        digestOfANewObject();
        digestByTheFace();
        check.finish();
    }

    private static BridgeAuction busy() {
        BridgeAuction x = new BridgeAuction();
        x.addLink(0, 1, 5);
        x.addLink(1, 2, 7);
        x.bid(0, 0, 9);
        x.bid(2, 0, 8);
        x.tick(12);
        x.send(0, 2);
        x.fail(1);
        x.undo();
        x.undo();
        x.undo();
        return x;
    }

    /** Each of them is done and undone from a state without saved states. */
    private static void everyUndoableCall() {
        for (int which = 0; which < 12; which++) {
            BridgeAuction x = busy();
            x.tick(12);
            x.send(0, 2);
            x.fail(1);
            BridgeAuction y = busy();
            y.tick(12);
            y.send(0, 2);
            y.fail(1);
            undoable(x, which);
            check.due("undo of call " + which, x.undo(), 2);
            // The call dropped the oldest state of the three.
            y.grant(0, 1);
            y.undo();
            check.due("digest after call " + which, x.digest(), y.digest());
        }
    }

    private static int undoable(BridgeAuction x, int which) {
        switch (which) {
            case 0: return x.setBridges(3);
            case 1: return x.setTimes(1, 5, 0);
            case 2: return x.setPriority(1, 2);
            case 3: return x.addLink(2, 3, 4);
            case 4: return x.fail(0);
            case 5: return x.fix(1);
            case 6: return x.moveHost(6, 0);
            case 7: return x.bid(1, 1, 50);
            case 8: return x.grant(2, 10);
            case 9: return x.tick(30);
            case 10: return x.send(1, 0);
            default: return x.run();
        }
    }

    /** A whole other network takes the place of the busy one and is undone. */
    private static void everyRowComesBack() {
        BridgeAuction x = busy();
        BridgeAuction y = busy();
        x.tick(12);
        y.tick(12);
        check.due("setBridges", x.setBridges(7), 4);
        Check.runText(x, "link 5 6 99;link 4 6 98;prio 0 1;prio 1 1;prio 2 1;host 0 6;bid 1 0 3;bid 3 1 80;"
                + "bid 0 1 60;tick 10;fail 1;tick 1;");
        x.undo();
        check.due("undo", x.undo(), 1);
        y.grant(0, 0);
        y.grant(0, 0);
        y.undo();
        y.undo();
        check.due("digest", x.digest(), y.digest());
        x.tick(9);
        y.tick(9);
        check.due("digest later", x.digest(), y.digest());
        check.due("send", x.send(0, 2), y.send(0, 2));
        x.tick(50);
        y.tick(50);
        check.due("digest when the entries are old", x.digest(), y.digest());
        x.send(2, 0);
        x.tick(30);
        x.send(2, 0);
        x.undo();
        x.tick(21);
        check.due("the time of an entry comes back too", x.entry(0, 2), BridgeAuction.NONE);
        // A link takes the place of one that was used and undone.
        x.setBridges(3);
        y.setBridges(3);
        x.addLink(0, 1, 9);
        x.addLink(1, 2, 9);
        x.bid(0, 0, 7);
        x.bid(0, 1, 7);
        Check.runText(x, "tick 5;tick 6;fail 1;");
        x.undo();
        x.undo();
        x.undo();
        x.setBridges(3);
        x.addLink(1, 2, 9);
        x.addLink(0, 2, 9);
        y.setBridges(3);
        y.addLink(1, 2, 9);
        y.addLink(0, 2, 9);
        check.due("digest with new links", x.digest(), y.digest());
    }

    private static void depth() {
        BridgeAuction x = new BridgeAuction();
        for (int i = 1; i <= 5; i++) {
            x.tick(i);
        }
        check.due("time", x.time(), 15);
        check.due("undo", x.undo(), 2);
        check.due("time", x.time(), 10);
        check.due("undo", x.undo(), 1);
        check.due("time", x.time(), 6);
        check.due("undo", x.undo(), 0);
        check.due("time", x.time(), 3);
        check.refused("undo", x, IllegalStateException.class, () -> x.undo());
        x.tick(4);
        x.grant(0, 0);
        check.due("also if it changes nothing", x.undo(), 1);
        check.due("time", x.time(), 7);
        check.due("undo", x.undo(), 0);
        check.due("time", x.time(), 3);
        // Calls that only tell, or that throw, save nothing.
        x.tick(1);
        x.time();
        x.links();
        x.bridge(0, 0);
        x.count(0);
        x.isForest();
        x.type(32);
        x.clearScript();
        x.digest();
        check.refused("tick(0)", x, IllegalArgumentException.class, () -> x.tick(0));
        check.due("undo", x.undo(), 0);
    }

    private static void scriptStays() {
        BridgeAuction x = new BridgeAuction();
        x.type('t');
        x.tick(1);
        x.type('i');
        check.due("undo", x.undo(), 0);
        check.due("script", x.clearScript(), 2);
        x.tick(1);
        x.undo();
        check.due("script", x.clearScript(), 0);
    }

    private static long hash(long start, long... values) {
        long h = start;
        for (long v : values) {
            h = 31 * h + v;
        }
        return h;
    }

    private static void digestOfANewObject() {
        long h = hash(18498, 0, 0, 4, 0, 3, 10, 5);
        for (int b = 0; b < 4; b++) {
            h = hash(h, 50 + b, 50 + b, 0, 0, -1, 0, -1, -1, -1, -1, -1, -1, -1, -1);
        }
        h = hash(h, 0, 1, 2, 3, 0, 1, 2, 3);
        h = hash(h, 0);
        for (int t = 0; t < 4; t++) {
            h = hash(h, 100, 0, 0, 0);
        }
        h = hash(h, 0, 0, 0, 0, 0, 0, 0, 1);
        check.due("digest", new BridgeAuction().digest(), h);
    }

    private static void digestByTheFace() {
        BridgeAuction x = new BridgeAuction();
        x.addLink(0, 1, 5);
        x.addLink(3, 1, 7);
        x.bid(0, 0, 9);
        x.bid(3, 1, 8);
        x.moveHost(7, 2);
        x.tick(15);
        x.send(0, 1);
        x.type('!');
        long h = hash(18498, 3, 1, 4, 15, 3, 10, 5);
        for (int b = 0; b < 4; b++) {
            for (int what = 0; what < 6; what++) {
                h = hash(h, x.bridge(b, what));
            }
            for (int host = 0; host < 8; host++) {
                h = hash(h, x.entry(b, host));
            }
        }
        h = hash(h, 0, 1, 2, 3, 0, 1, 2, 2);
        h = hash(h, 2);
        for (int l = 0; l < 2; l++) {
            for (int what = 0; what < 9; what++) {
                h = hash(h, x.link(l, what));
            }
            h = hash(h, x.port(l, false, 0), x.port(l, false, 1), x.port(l, false, 2));
            h = hash(h, x.port(l, true, 0), x.port(l, true, 1), x.port(l, true, 2));
            h = hash(h, x.bidOf(0, l), x.bidOf(1, l), x.bidOf(2, l), x.bidOf(3, l));
        }
        for (int t = 0; t < 4; t++) {
            h = hash(h, x.tenant(t, 0), x.tenant(t, 1), x.tenant(t, 2), x.tenant(t, 3));
        }
        for (int what = 0; what < 7; what++) {
            h = hash(h, x.count(what));
        }
        check.due("digest", x.digest(), hash(h, x.isForest() ? 1 : 0));
        check.due("digest again", x.digest(), hash(h, x.isForest() ? 1 : 0));
    }
}
