import java.util.List;

/**
 * Every call with every choice of arguments at their edges and beyond, in an object where all is
 * empty, in a busy one and in a full one: of the exceptions that apply the one listed first is
 * thrown, the call that throws changes nothing, and no other call throws.
 */
final class RefusalTest {
    private static final Check check = new Check();
    private static final Class<?> INDEX = IndexOutOfBoundsException.class;
    private static final Class<?> ARGUMENT = IllegalArgumentException.class;
    private static final Class<?> STATE = IllegalStateException.class;
    private static final boolean[] SIDES = {false, true};

    private final Recipe recipe;
    private final List<Long> untouched;
    private final int bridges;
    private final int links;
    private final int linkThatIsDown;
    private final int scriptLength;
    private final int saved;

    private RefusalTest(Recipe recipe, int bridges, int linkThatIsDown, int scriptLength, int saved) {
        this.recipe = recipe;
        this.bridges = bridges;
        // The last link of each object is the one that is down.
        this.links = linkThatIsDown + 1;
        this.linkThatIsDown = linkThatIsDown;
        this.scriptLength = scriptLength;
        this.saved = saved;
        untouched = Traces.of(recipe);
    }

    public static void main(String[] args) {
        new RefusalTest(Recipe::empty, 4, BridgeAuction.NONE, 0, 0).everyCall();
        new RefusalTest(Recipe::busy, 4, 3, 17, 3).everyCall();
        new RefusalTest(Recipe::full, 8, 15, 120, 3).everyCall();
        check.finish();
    }

    private void everyCall() {
        setBridges();
        setTimes();
        setPriority();
        addLink();
        failAndFix();
        moveHostAndEntry();
        bidAndBidOf();
        grant();
        tick();
        send();
        bridge();
        link();
        port();
        tenant();
        count();
        type();
        undo();
        callsThatNeverThrow();
    }

    private static int[] edges(int least, int most) {
        return new int[] {Integer.MIN_VALUE, least - 1, least, most, most + 1, Integer.MAX_VALUE};
    }

    private static boolean isIn(int value, int least, int most) {
        return value >= least && value <= most;
    }

    private boolean isBridge(int bridge) {
        return isIn(bridge, 0, bridges - 1);
    }

    private boolean isLink(int link) {
        return isIn(link, 0, links - 1);
    }

    /** Null is due where no exception applies. */
    private void due(String what, Class<?> due, Recipe.Call call) {
        Class<?> thrown = thrownBy(recipe.make(), call);
        check.due(what + " threw " + thrown + " where due is " + due, thrown == due, true);
        if (due != null) {
            List<Long> touched = Traces.of(() -> {
                BridgeAuction x = recipe.make();
                thrownBy(x, call);
                return x;
            });
            check.due(what + " was refused and changed nothing", touched.equals(untouched), true);
        }
    }

    private static Class<?> thrownBy(BridgeAuction x, Recipe.Call call) {
        try {
            call.on(x);
            return null;
        } catch (RuntimeException e) {
            return e.getClass();
        }
    }

    private void setBridges() {
        for (int b : edges(2, 8)) {
            due("setBridges(" + b + ")", isIn(b, 2, 8) ? null : ARGUMENT, x -> x.setBridges(b));
        }
    }

    private void setTimes() {
        for (int delay : edges(1, 20)) {
            for (int interval : edges(5, 100)) {
                for (int hysteresis : edges(0, 100)) {
                    boolean fine = isIn(delay, 1, 20) && isIn(interval, 5, 100) && isIn(hysteresis, 0, 100);
                    due("setTimes(" + delay + ", " + interval + ", " + hysteresis + ")",
                            fine ? null : ARGUMENT, x -> x.setTimes(delay, interval, hysteresis));
                }
            }
        }
    }

    private void setPriority() {
        for (int b : edges(0, bridges - 1)) {
            for (int priority : edges(0, 9)) {
                Class<?> due = !isBridge(b) ? INDEX : !isIn(priority, 0, 9) ? ARGUMENT : null;
                due("setPriority(" + b + ", " + priority + ")", due, x -> x.setPriority(b, priority));
            }
        }
    }

    private void addLink() {
        for (int a : edges(0, bridges - 1)) {
            for (int b : edges(0, bridges - 1)) {
                for (int cost : edges(1, 100)) {
                    due("addLink(" + a + ", " + b + ", " + cost + ")", dueOfLink(a, b, cost),
                            x -> x.addLink(a, b, cost));
                }
            }
        }
    }

    private Class<?> dueOfLink(int a, int b, int cost) {
        if (!isBridge(a) || !isBridge(b)) {
            return INDEX;
        }
        if (a == b || !isIn(cost, 1, 100)) {
            return ARGUMENT;
        }
        return links == 16 ? STATE : null;
    }

    private void failAndFix() {
        for (int l : edges(0, links - 1)) {
            boolean isDown = l == linkThatIsDown;
            due("fail(" + l + ")", !isLink(l) ? INDEX : isDown ? STATE : null, x -> x.fail(l));
            due("fix(" + l + ")", !isLink(l) ? INDEX : isDown ? null : STATE, x -> x.fix(l));
        }
    }

    private void moveHostAndEntry() {
        for (int host : edges(0, 7)) {
            for (int b : edges(0, bridges - 1)) {
                Class<?> due = isIn(host, 0, 7) && isBridge(b) ? null : INDEX;
                due("moveHost(" + host + ", " + b + ")", due, x -> x.moveHost(host, b));
                due("entry(" + b + ", " + host + ")", due, x -> x.entry(b, host));
            }
        }
    }

    private void bidAndBidOf() {
        for (int t : edges(0, 3)) {
            for (int l : edges(0, links - 1)) {
                Class<?> dueOfPlace = isIn(t, 0, 3) && isLink(l) ? null : INDEX;
                due("bidOf(" + t + ", " + l + ")", dueOfPlace, x -> x.bidOf(t, l));
                for (int credits : edges(0, 1000)) {
                    Class<?> due = dueOfPlace == null && !isIn(credits, 0, 1000) ? ARGUMENT : dueOfPlace;
                    due("bid(" + t + ", " + l + ", " + credits + ")", due, x -> x.bid(t, l, credits));
                }
            }
        }
    }

    private void grant() {
        for (int t : edges(0, 3)) {
            for (int credits : edges(0, 10000)) {
                boolean isRich = t == 3 && links == 16;
                Class<?> due = !isIn(t, 0, 3) ? INDEX
                        : !isIn(credits, 0, 10000) ? ARGUMENT
                        : isRich && credits > 0 ? STATE : null;
                due("grant(" + t + ", " + credits + ")", due, x -> x.grant(t, credits));
            }
        }
    }

    private void tick() {
        for (int ticks : edges(1, 200)) {
            due("tick(" + ticks + ")", isIn(ticks, 1, 200) ? null : ARGUMENT, x -> x.tick(ticks));
        }
    }

    private void send() {
        for (int from : edges(0, 7)) {
            for (int to : edges(0, 7)) {
                Class<?> due = !isIn(from, 0, 7) || !isIn(to, 0, 7) ? INDEX : from == to ? ARGUMENT : null;
                due("send(" + from + ", " + to + ")", due, x -> x.send(from, to));
            }
        }
    }

    private void bridge() {
        for (int b : edges(0, bridges - 1)) {
            for (int what : edges(0, 5)) {
                Class<?> due = !isBridge(b) ? INDEX : !isIn(what, 0, 5) ? ARGUMENT : null;
                due("bridge(" + b + ", " + what + ")", due, x -> x.bridge(b, what));
            }
        }
    }

    private void link() {
        for (int l : edges(0, links - 1)) {
            for (int what : edges(0, 8)) {
                Class<?> due = !isLink(l) ? INDEX : !isIn(what, 0, 8) ? ARGUMENT : null;
                due("link(" + l + ", " + what + ")", due, x -> x.link(l, what));
            }
        }
    }

    private void port() {
        for (int l : edges(0, links - 1)) {
            for (boolean higher : SIDES) {
                for (int what : edges(0, 2)) {
                    Class<?> due = !isLink(l) ? INDEX : !isIn(what, 0, 2) ? ARGUMENT : null;
                    due("port(" + l + ", " + higher + ", " + what + ")", due, x -> x.port(l, higher, what));
                }
            }
        }
    }

    private void tenant() {
        for (int t : edges(0, 3)) {
            for (int what : edges(0, 3)) {
                Class<?> due = !isIn(t, 0, 3) ? INDEX : !isIn(what, 0, 3) ? ARGUMENT : null;
                due("tenant(" + t + ", " + what + ")", due, x -> x.tenant(t, what));
            }
        }
    }

    private void count() {
        for (int what : edges(0, 6)) {
            due("count(" + what + ")", isIn(what, 0, 6) ? null : ARGUMENT, x -> x.count(what));
        }
    }

    private void type() {
        for (int value : edges(0, 127)) {
            Class<?> due = !isIn(value, 0, 127) ? ARGUMENT : scriptLength == 120 ? STATE : null;
            due("type(" + value + ")", due, x -> x.type(value));
        }
    }

    private void undo() {
        due("undo()", saved == 0 ? STATE : null, x -> x.undo());
    }

    private void callsThatNeverThrow() {
        due("time()", null, x -> x.time());
        due("links()", null, x -> x.links());
        due("isForest()", null, x -> x.isForest() ? 1 : 0);
        due("clearScript()", null, x -> x.clearScript());
        due("run()", null, x -> x.run());
        due("digest()", null, x -> x.digest());
    }
}
