import java.util.ArrayList;
import java.util.List;

/**
 * What later calls tell of an object. The digest alone does not tell when an entry was made, which
 * bytes the script has, or what the saved states hold; ticks, a run and undoing do.
 */
final class Traces {
    private static final int[] TICKS = {1, 1, 1, 6, 11, 29, 1, 1, 1};

    private Traces() {
    }

    /** Each part is told of an object of its own, since telling it changes the object. */
    static List<Long> of(Recipe recipe) {
        List<Long> told = new ArrayList<>();
        BridgeAuction x = recipe.make();
        tellTicks(x, told);
        x = recipe.make();
        told.add((long) x.run());
        told.add(x.digest());
        x = recipe.make();
        while (undone(x)) {
            told.add(x.digest());
        }
        tellTicks(x, told);
        return told;
    }

    private static void tellTicks(BridgeAuction x, List<Long> told) {
        told.add(x.digest());
        for (int ticks : TICKS) {
            x.tick(ticks);
            told.add(x.digest());
        }
    }

    private static boolean undone(BridgeAuction x) {
        try {
            x.undo();
            return true;
        } catch (IllegalStateException e) {
            return false;
        }
    }
}
