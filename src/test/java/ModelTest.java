import java.lang.reflect.InvocationTargetException;
import java.lang.reflect.Method;
import java.util.Arrays;
import java.util.HashMap;
import java.util.Map;
import java.util.Random;

/** Long runs of calls, drawn by fixed seeds, on a BridgeAuction and on the model beside it. */
final class ModelTest {
    private static final int RUNS = 1500;
    private static final int CALLS = 400;

    /** How often each call is drawn. */
    private static final Map<String, Integer> WEIGHTS = Map.ofEntries(
            Map.entry("setBridges", 1), Map.entry("setTimes", 2), Map.entry("setPriority", 2),
            Map.entry("addLink", 6), Map.entry("fail", 5), Map.entry("fix", 6), Map.entry("moveHost", 3),
            Map.entry("bid", 14), Map.entry("grant", 4), Map.entry("tick", 24), Map.entry("time", 1),
            Map.entry("send", 20), Map.entry("bridge", 2), Map.entry("links", 1), Map.entry("link", 2),
            Map.entry("port", 2), Map.entry("entry", 2), Map.entry("tenant", 2), Map.entry("bidOf", 2),
            Map.entry("count", 2), Map.entry("isForest", 1), Map.entry("type", 40), Map.entry("clearScript", 3),
            Map.entry("run", 7), Map.entry("undo", 6));

    private static final String[] PIECES = {"link", "bid", "fail", "fix", "prio", "host", "tick", " ", "  ", ";",
        "; ", " 0", " 1", " 2", " 3", " 10", " 55", " 200", " 1000", " 12345", "x", "A", "tic", "9", "!", " 0;",
        " 1 2;", "tick 5;", "link 0 1 9;", "bid 1 0 60;", "bid 2 0 70;", "fail 0;", "fix 0 ;", " prio 2 1;",
        "host 3 1;", "tick 20;", "tick 11 ;"};

    private static final int[] ODD = {-1, 0, 1, 2, 4, 5, 8, 9, 10, 16, 20, 21, 100, 101, 120, 127, 128, 200, 201,
        1000, 1001, 10000, 10001, Integer.MAX_VALUE, Integer.MIN_VALUE};

    private final Random random;
    private final BridgeAuction auction = new BridgeAuction();
    private final Model model = new Model();
    /** One draw in so many is an argument at or beyond an edge. */
    private final int tameness;

    private ModelTest(int seed) {
        random = new Random(seed);
        tameness = seed % 4 == 0 ? 6 : 60;
    }

    public static void main(String[] args) throws IllegalAccessException {
        int wrong = 0;
        Map<String, Method> first = methods(BridgeAuction.class);
        Map<String, Method> second = methods(Model.class);
        String[] names = names();
        for (int seed = 0; seed < RUNS && wrong < 10; seed++) {
            wrong += new ModelTest(seed).compare(seed, names, first, second) ? 0 : 1;
        }
        System.out.println(wrong == 0 ? "all answers are as due" : wrong + " runs are not as due");
        if (wrong != 0) {
            System.exit(1);
        }
    }

    private static Map<String, Method> methods(Class<?> owner) {
        Map<String, Method> found = new HashMap<>();
        for (Method method : owner.getDeclaredMethods()) {
            if (WEIGHTS.containsKey(method.getName())) {
                found.put(method.getName(), method);
            }
        }
        return found;
    }

    /** Sorted, so that a seed draws the same calls on every machine. */
    private static String[] names() {
        return WEIGHTS.keySet().stream().sorted()
                .flatMap(name -> java.util.stream.Stream.generate(() -> name).limit(WEIGHTS.get(name)))
                .toArray(String[]::new);
    }

    private boolean compare(int seed, String[] names, Map<String, Method> first, Map<String, Method> second)
            throws IllegalAccessException {
        for (int i = 0; i < CALLS; i++) {
            String name = names[random.nextInt(names.length)];
            if (i < 16 && random.nextInt(3) > 0) {
                name = "addLink";
            }
            int repeats = 1;
            String piece = "";
            if (name.equals("type")) {
                piece = PIECES[random.nextInt(PIECES.length)];
                repeats = piece.length();
            }
            for (int k = 0; k < repeats; k++) {
                Object[] args = arguments(name);
                if (name.equals("type") && args[0].equals(0)) {
                    args[0] = (int) piece.charAt(k);
                }
                String got = answer(first.get(name), auction, args);
                String want = answer(second.get(name), model, args);
                if (!got.equals(want) || auction.digest() != model.digest()) {
                    System.out.println("seed " + seed + ", call " + i + ": " + name + Arrays.toString(args)
                            + " answered " + got + ", the model " + want + ", script '" + model.script + "'");
                    return false;
                }
            }
        }
        return true;
    }

    private static String answer(Method method, Object on, Object[] args) throws IllegalAccessException {
        try {
            return String.valueOf(method.invoke(on, args));
        } catch (InvocationTargetException e) {
            return e.getCause().getClass().getName();
        }
    }

    private int below(int bound) {
        return from(0, bound - 1);
    }

    private int from(int least, int most) {
        if (random.nextInt(tameness) == 0) {
            return ODD[random.nextInt(ODD.length)];
        }
        return least + random.nextInt(most - least + 1);
    }

    private int someBridge() {
        return below(model.s.bridges.size());
    }

    private int someLink() {
        return below(Math.max(1, model.links()));
    }

    private Object[] arguments(String name) {
        switch (name) {
            case "setBridges": return new Object[] {from(2, 8)};
            case "setTimes": return new Object[] {from(1, 3), from(5, 12), from(0, 20)};
            case "setPriority": return new Object[] {someBridge(), below(10)};
            case "addLink": return new Object[] {someBridge(), someBridge(), from(1, 12)};
            case "fail": case "fix": return new Object[] {someLink()};
            case "moveHost": return new Object[] {below(8), someBridge()};
            case "bid": return new Object[] {below(4), someLink(), random.nextBoolean() ? below(8) : below(70)};
            case "grant": return new Object[] {below(4), below(200)};
            case "tick": return new Object[] {random.nextInt(4) > 0 ? from(1, 6) : from(1, 60)};
            case "send": return new Object[] {below(8), below(8)};
            case "bridge": return new Object[] {someBridge(), below(6)};
            case "link": return new Object[] {someLink(), below(9)};
            case "port": return new Object[] {someLink(), random.nextBoolean(), below(3)};
            case "entry": return new Object[] {someBridge(), below(8)};
            case "tenant": return new Object[] {below(4), below(4)};
            case "bidOf": return new Object[] {below(4), someLink()};
            case "count": return new Object[] {below(7)};
            case "type": return new Object[] {from(0, 0)};
            default: return new Object[0];
        }
    }
}
