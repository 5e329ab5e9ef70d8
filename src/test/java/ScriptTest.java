/** Promises 23, 24 and 25: the script, its faults, and what it carries out. */
final class ScriptTest {
    private static final Check check = new Check();

    public static void main(String[] args) {
        typing();
        faults();
        commands();
        commandsThatWouldThrow();
        undoOfARun();
        check.finish();
    }

    private static void typing() {
        BridgeAuction x = new BridgeAuction();
        check.due("type(0)", x.type(0), 1);
        check.due("type(127)", x.type(127), 2);
        check.refused("type(-1)", x, IllegalArgumentException.class, () -> x.type(-1));
        check.refused("type(128)", x, IllegalArgumentException.class, () -> x.type(128));
        check.due("clearScript", x.clearScript(), 2);
        check.due("clearScript", x.clearScript(), 0);
        for (int i = 1; i <= 120; i++) {
            check.due("type", x.type(' '), i);
        }
        check.refused("the 121st byte", x, IllegalStateException.class, () -> x.type(' '));
        check.refused("a wrong 121st byte", x, IllegalArgumentException.class, () -> x.type(128));
        check.due("run of spaces", x.run(), 0);
        check.due("clearScript", x.clearScript(), 120);
        x.type('x');
        check.due("undo of the run", x.undo(), 0);
        check.refused("typing and clearing are not undoable: undo", x, IllegalStateException.class,
                () -> x.undo());
    }

    private static void fault(String script, int due) {
        BridgeAuction x = new BridgeAuction();
        x.addLink(0, 1, 1);
        Check.type(x, script);
        long before = x.digest();
        check.due("'" + script + "'", x.run(), -10 - due);
        check.due("digest after '" + script + "'", x.digest(), before);
    }

    private static void faults() {
        fault("tick", 4);
        fault("tick ", 5);
        fault("tick;", 4);
        fault("tick ;", 5);
        fault("tick1;", 4);
        fault("tick 1", 6);
        fault("tick 1 ", 7);
        fault("tick 1 2;", 7);
        fault("tick 1a;", 6);
        fault("tick 12345;", 9);
        fault("tick -1;", 5);
        fault("tock", 0);
        fault("tock 1;", 0);
        fault("  tock!", 2);
        fault("ti", 0);
        fault("t", 0);
        fault("ticks 1;", 0);
        fault("tickz 1;", 0);
        fault("ticka 1;", 0);
        fault("zick 1;", 0);
        fault("ticktick 1;", 0);
        fault("li nk", 0);
        fault("bidd 1 1 1;", 0);
        fault("fi 1;", 0);
        fault("Tick 1;", 0);
        fault("tIck 1;", 0);
        fault("tickX 1;", 4);
        fault(";", 0);
        fault("  ;", 2);
        fault("1;", 0);
        fault("tick 1;;", 7);
        fault("tick 1; x", 8);
        fault("tick 1; tick", 12);
        fault("link 0 1;", 8);
        fault("link 0 1 ;", 9);
        fault("link 0 1 5", 10);
        fault("link 0 1 5 6;", 11);
        fault("link 0,1 5;", 6);
        fault("link 00000 1 5;", 9);
        fault("bid 0 0;", 7);
        fault("fail 0 0;", 7);
        fault("fix;", 3);
        fault("prio 0;", 6);
        fault("host 0;", 6);
        fault("host 0 0 0;", 9);
        fault("tick 1;\t", 7);
        fault("tick\t1;", 4);
        fault("tick 1:", 6);
        fault("tick 1/;", 6);
        fault("tick `;", 5);
        fault("`", 0);
        fault("{", 0);
        fault("tick 1;link 0 1 5;tock 1;", 18);
    }

    private static void commands() {
        BridgeAuction x = new BridgeAuction();
        BridgeAuction y = new BridgeAuction();
        check.due("run of nothing", x.run(), 0);
        check.due("commands", Check.runText(x, "link 0 1 5;link 2 1 100 ; bid 3 1 1000;tick 10;  "), 4);
        check.due("commands", Check.runText(x, "  fail   0;fix 0;fail 1 ;prio 3 0;host 7 0;tick 0005;"), 6);
        y.addLink(0, 1, 5);
        y.addLink(2, 1, 100);
        y.bid(3, 1, 1000);
        y.tick(10);
        y.fail(0);
        y.fix(0);
        y.fail(1);
        y.setPriority(3, 0);
        y.moveHost(7, 0);
        y.tick(5);
        check.due("the same as by calls", x.digest(), y.digest());
        Check.type(x, "tick 1;");
        check.due("run", x.run(), 1);
        check.due("run again", x.run(), 1);
        check.due("the script stays", x.clearScript(), 7);
        check.due("time", x.time(), 17);
        check.due("the longest ticks", Check.runText(x, "tick 200;tick 200;tick 200;"), 3);
        check.due("time", x.time(), 617);
    }

    private static void stops(String script, int due) {
        BridgeAuction x = new BridgeAuction();
        x.addLink(0, 1, 1);
        check.due("'" + script + "'", Check.runText(x, "tick 1;" + script + "tick 1;"), 1 + due);
        check.due("time after '" + script + "'", x.time(), 1);
    }

    private static void commandsThatWouldThrow() {
        stops("tick 0;", 0);
        stops("tick 201;", 0);
        stops("tick 9999;", 0);
        stops("link 0 4 1;", 0);
        stops("link 0 0 1;", 0);
        stops("link 0 1 101;", 0);
        stops("bid 4 0 1;", 0);
        stops("bid 0 1 1;", 0);
        stops("bid 0 0 1001;", 0);
        stops("fail 1;", 0);
        stops("fail 0;fail 0;", 1);
        stops("fix 0;", 0);
        stops("fix 1;", 0);
        stops("prio 4 0;", 0);
        stops("prio 0 10;", 0);
        stops("host 8 0;", 0);
        stops("host 0 4;", 0);
        BridgeAuction x = new BridgeAuction();
        for (int i = 0; i < 15; i++) {
            x.addLink(0, 1, 1);
        }
        check.due("the 17th link", Check.runText(x, "link 0 1 1;link 0 1 1;tick 1;"), 1);
        check.due("links", x.links(), 16);
    }

    private static void undoOfARun() {
        BridgeAuction x = new BridgeAuction();
        Check.type(x, "tick 3;link 0 1 1;tick 300;");
        check.due("run", x.run(), 2);
        check.due("links", x.links(), 1);
        check.due("one state for the whole run", x.undo(), 0);
        check.due("time", x.time(), 0);
        check.due("links", x.links(), 0);
        check.due("the script stays", x.clearScript(), 27);
        Check.type(x, "tick 300;");
        check.due("run of nothing that can be done", x.run(), 0);
        check.due("is undoable even so", x.undo(), 0);
        x.type('!');
        check.due("run with a fault", x.run(), -10 - 9);
        check.refused("is not undoable: undo", x, IllegalStateException.class, () -> x.undo());
    }
}
