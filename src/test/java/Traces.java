import java.util.ArrayList;
import java.util.List;

/**
 * What later calls tell of an object. The digest alone does not tell when an entry was made, which
 * bytes the script has, or what the saved states hold; ticks, a run and undoing do.
 */
final class Traces {
    private static final int[] TICKS = {1, 1, 1, 6, 11, 29, 1, 1, 1};

    private Traces() {
    }

    /** Each part is told of an object of its own, since telling it changes the object. */
    static List<Long> of(Recipe recipe) {
        List<Long> told = new ArrayList<>();
        BridgeAuction x = recipe.make();
        tellTicks(x, told);
        x = recipe.make();
        told.add((long) x.run());
        told.add(x.digest());
        x = recipe.make();
        while (undone(x)) {
            told.add(x.digest());
        }
        tellTicks(x, told);
        return told;
    }

    /** Every value that the face tells of the network, but for the number of saved states. */
    static void tellValues(BridgeAuction x, List<Integer> told) {
        told.add(x.time());
        for (int bridge = 0; isThere(x, bridge); bridge++) {
            for (int what = 0; what <= 5; what++) {
                told.add(x.bridge(bridge, what));
            }
            for (int host = 0; host < 8; host++) {
                told.add(x.entry(bridge, host));
            }
        }
        for (int link = 0; link < x.links(); link++) {
            for (int what = 0; what <= 8; what++) {
                told.add(x.link(link, what));
            }
            for (int what = 0; what <= 2; what++) {
                told.add(x.port(link, false, what));
                told.add(x.port(link, true, what));
            }
            for (int tenant = 0; tenant < 4; tenant++) {
                told.add(x.bidOf(tenant, link));
            }
        }
        for (int tenant = 0; tenant < 4; tenant++) {
            for (int what = 0; what <= 3; what++) {
                told.add(x.tenant(tenant, what));
            }
        }
        for (int what = 0; what <= 6; what++) {
            told.add(x.count(what));
        }
    }

    private static boolean isThere(BridgeAuction x, int bridge) {
        try {
            x.bridge(bridge, 0);
            return true;
        } catch (IndexOutOfBoundsException e) {
            return false;
        }
    }

    private static void tellTicks(BridgeAuction x, List<Long> told) {
        told.add(x.digest());
        for (int ticks : TICKS) {
            x.tick(ticks);
            told.add(x.digest());
        }
    }

    private static boolean undone(BridgeAuction x) {
        try {
            x.undo();
            return true;
        } catch (IllegalStateException e) {
            return false;
        }
    }
}
