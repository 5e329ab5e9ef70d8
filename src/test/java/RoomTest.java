import com.sun.management.ThreadMXBean;
import java.lang.management.ManagementFactory;

/**
 * How much room the class takes: an object makes its rows once, and a call that does not throw
 * makes nothing.
 */
final class RoomTest {
    private static final Check check = new Check();
    private static final ThreadMXBean threads = (ThreadMXBean) ManagementFactory.getThreadMXBean();

    /** What the Java machine may take for itself while 10000 calls are counted. */
    private static final long SPARE = 20000;

    public static void main(String[] args) {
        check.due("the machine tells what a thread takes", threads.isThreadAllocatedMemorySupported(), true);
        checkObject();
        checkCalls();
        checkLongestRun();
        check.finish();
    }

    private static long taken() {
        return threads.getThreadAllocatedBytes(Thread.currentThread().getId());
    }

    /** 3000 objects fit into the room of 7.3 million fields and elements, of at most 8 bytes each. */
    private static void checkObject() {
        BridgeAuction[] kept = new BridgeAuction[100];
        new BridgeAuction();
        long before = taken();
        for (int i = 0; i < kept.length; i++) {
            kept[i] = new BridgeAuction();
        }
        long each = (taken() - before) / kept.length;
        check.due("an object takes at most 19000 bytes, it takes " + each, each <= 19000, true);
    }

    private static void checkCalls() {
        takesNothing("setBridges", x -> x.setBridges(8));
        takesNothing("setTimes", x -> x.setTimes(1, 5, 0));
        takesNothing("setPriority", x -> x.setPriority(1, 3));
        takesNothing("addLink", x -> x.setBridges(4) + x.addLink(1, 2, 3));
        takesNothing("fail, fix", x -> x.fail(0) + x.fix(0));
        takesNothing("moveHost", x -> x.moveHost(1, 3));
        takesNothing("bid", x -> x.bid(2, 1, 50));
        takesNothing("grant", x -> x.grant(1, 1));
        takesNothing("tick", x -> x.tick(20));
        takesNothing("time", x -> x.time());
        takesNothing("send", x -> x.send(0, 2));
        takesNothing("bridge, links, link, port", x -> x.bridge(1, 5) + x.links() + x.link(1, 7) + x.port(1, true, 0));
        takesNothing("entry, tenant, bidOf, count", x -> x.entry(1, 0) + x.tenant(1, 1) + x.bidOf(1, 0) + x.count(6));
        takesNothing("isForest", x -> x.isForest() ? 1 : 0);
        takesNothing("type, clearScript", x -> x.clearScript() + x.type('t'));
        takesNothing("run", x -> x.run());
        takesNothing("undo", x -> x.moveHost(1, 3) + x.undo());
        takesNothing("digest", x -> x.digest());
    }

    private static void takesNothing(String what, Recipe.Call call) {
        BridgeAuction x = Recipe.busy();
        call.on(x);
        long before = taken();
        for (int i = 0; i < 10000; i++) {
            call.on(x);
        }
        long made = taken() - before;
        check.due(what + " makes nothing; 10000 times it took " + made + " bytes", made < SPARE, true);
    }

    /** Scripts with the most ticks that they can have; the time tells that all of them passed. */
    private static void checkLongestRun() {
        BridgeAuction x = Recipe.full();
        x.clearScript();
        Check.type(x, "tick 200;".repeat(13));
        int start = x.time();
        long before = taken();
        for (int i = 0; i < 100; i++) {
            x.run();
        }
        long made = taken() - before;
        check.due("the longest runs make nothing; they took " + made + " bytes", made < SPARE, true);
        check.due("the time after the longest runs", x.time(), start + 100 * 13 * 200);
    }
}
