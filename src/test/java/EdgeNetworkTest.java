/**
 * The edges that the document names for the network and for the calls that set it up (promises 1
 * to 10, 15 and 20): one method for each sentence.
 */
final class EdgeNetworkTest {
    private static final Check check = new Check();
    private static final int NONE = BridgeAuction.NONE;
    private static final Class<IndexOutOfBoundsException> INDEX = IndexOutOfBoundsException.class;
    private static final Class<IllegalArgumentException> ARGUMENT = IllegalArgumentException.class;
    private static final Class<IllegalStateException> STATE = IllegalStateException.class;

    public static void main(String[] args) {
        fourBridgesAtFirst();
        twoToEightBridges();
        fewerThanTwoOrMoreThanEightBridges();
        priorityFiveAtFirst();
        leastAndGreatestPriority();
        vectorStartsAnewEvenWithTheSamePriority();
        hostsModuloEveryNumberOfBridges();
        noLinkAtFirst();
        sixteenLinks();
        sixteenLinksOfWhichAllAreDown();
        leastAndGreatestCost();
        costsOutOfRange();
        aLinkJoinsTwoDifferentBridges();
        lowerAndHigherBridge();
        upWhenAddedAndEqualToItsBaseCost();
        timesAtFirst();
        leastAndGreatestTimes();
        timersThatRunGoOn();
        timesStayWhenAllBeginsAnew();
        allElseBeginsAnew();
        linksThatAreAddedThenAreNew();
        failOfEveryLink();
        fixTellsHowManyAreUp();
        hostsAtTheFirstAndTheLastBridge();
        leastAndGreatestBid();
        bidsOfTheFirstAndTheLastTenantAndLink();
        leastAndGreatestGrant();
        upToAMillion();
        aboveAMillionByARefund();
        check.finish();
    }

    /** "There are B bridges (2 to 8, 4 at first), numbered from 0." */
    private static void fourBridgesAtFirst() {
        BridgeAuction x = new BridgeAuction();
        check.due("bridge(0, 0)", x.bridge(0, 0), 50);
        check.due("bridge(3, 0)", x.bridge(3, 0), 53);
        check.refused("bridge(4, 0)", x, INDEX, () -> x.bridge(4, 0));
        check.refused("bridge(-1, 0)", x, INDEX, () -> x.bridge(-1, 0));
        check.due("setBridges(4)", x.setBridges(4), 4);
    }

    private static void twoToEightBridges() {
        BridgeAuction x = new BridgeAuction();
        int previous = 4;
        for (int bridges = 2; bridges <= 8; bridges++) {
            int size = bridges;
            check.due("setBridges(" + size + ")", x.setBridges(size), previous);
            check.due("the last of " + size, x.bridge(size - 1, 0), 50 + size - 1);
            check.refused("one more than " + size, x, INDEX, () -> x.bridge(size, 0));
            check.refused("setPriority of one more", x, INDEX, () -> x.setPriority(size, 0));
            check.refused("addLink to one more", x, INDEX, () -> x.addLink(0, size, 1));
            check.refused("moveHost to one more", x, INDEX, () -> x.moveHost(0, size));
            check.refused("entry of one more", x, INDEX, () -> x.entry(size, 0));
            check.due("addLink to the last", x.addLink(size - 1, 0, 1), 0);
            check.due("moveHost to the last", x.moveHost(0, size - 1), 0);
            check.due("setPriority of the last", x.setPriority(size - 1, 9), 5);
            previous = size;
        }
    }

    private static void fewerThanTwoOrMoreThanEightBridges() {
        BridgeAuction x = new BridgeAuction();
        check.refused("setBridges(1)", x, ARGUMENT, () -> x.setBridges(1));
        check.refused("setBridges(0)", x, ARGUMENT, () -> x.setBridges(0));
        check.refused("setBridges(9)", x, ARGUMENT, () -> x.setBridges(9));
        check.due("the number stays", x.setBridges(2), 4);
    }

    /** "A bridge has a priority (0 to 9, 5 at first) and the id 10 * priority + number." */
    private static void priorityFiveAtFirst() {
        BridgeAuction x = new BridgeAuction();
        x.setBridges(8);
        for (int bridge = 0; bridge < 8; bridge++) {
            check.due("first id of " + bridge, x.bridge(bridge, 0), 50 + bridge);
            check.due("first priority of " + bridge, x.setPriority(bridge, 1), 5);
        }
    }

    private static void leastAndGreatestPriority() {
        BridgeAuction x = new BridgeAuction();
        x.setBridges(8);
        check.due("setPriority(0, 0)", x.setPriority(0, 0), 5);
        check.due("the least id", x.bridge(0, 0), 0);
        check.due("setPriority(7, 9)", x.setPriority(7, 9), 5);
        check.due("the greatest id", x.bridge(7, 0), 97);
        check.due("its vector", x.bridge(7, 1), 97);
        check.refused("setPriority(7, 10)", x, ARGUMENT, () -> x.setPriority(7, 10));
        check.refused("setPriority(7, -1)", x, ARGUMENT, () -> x.setPriority(7, -1));
        check.refused("setPriority(8, 10)", x, INDEX, () -> x.setPriority(8, 10));
        check.due("setPriority(7, 0)", x.setPriority(7, 0), 9);
        check.due("setPriority(0, 9)", x.setPriority(0, 9), 0);
    }

    /** "Sets the priority of a bridge, which is started anew: its vector, but nothing else." */
    private static void vectorStartsAnewEvenWithTheSamePriority() {
        BridgeAuction x = Recipe.busy();
        check.due("root before", x.bridge(2, 1), 50);
        check.due("setPriority(2, 5)", x.setPriority(2, 5), 5);
        int[] anew = {52, 52, 0, 0, NONE, 2};
        for (int what = 0; what < 6; what++) {
            check.due("bridge(2, " + what + ")", x.bridge(2, what), anew[what]);
        }
        check.due("another vector stays", x.bridge(1, 1), 50);
        check.due("the state of its port stays", x.port(1, true, 1), BridgeAuction.FORWARDING);
        check.due("the role of its port stays", x.port(1, true, 0), BridgeAuction.ROOT);
        check.due("its table stays", x.entry(2, 0), 1);
    }

    /** "Host h is at bridge h modulo B at first, and may be moved." */
    private static void hostsModuloEveryNumberOfBridges() {
        BridgeAuction x = new BridgeAuction();
        for (int bridges = 2; bridges <= 8; bridges++) {
            x.setBridges(bridges);
            for (int host = 0; host < 8; host++) {
                check.due("host " + host + " of " + bridges, x.moveHost(host, 0), host % bridges);
                check.due("host " + host + " moved", x.moveHost(host, 1), 0);
            }
        }
    }

    /** "There are at most 16 links, numbered from 0 in the order in which they were added, none at first." */
    private static void noLinkAtFirst() {
        BridgeAuction x = new BridgeAuction();
        check.due("links", x.links(), 0);
        check.refused("fail(0)", x, INDEX, () -> x.fail(0));
        check.refused("fix(0)", x, INDEX, () -> x.fix(0));
        check.refused("bid(0, 0, 0)", x, INDEX, () -> x.bid(0, 0, 0));
        check.refused("bidOf(0, 0)", x, INDEX, () -> x.bidOf(0, 0));
        check.refused("link(0, 0)", x, INDEX, () -> x.link(0, 0));
        check.refused("port(0, false, 0)", x, INDEX, () -> x.port(0, false, 0));
        x.tick(200);
        check.due("auctions without links", x.count(0), 20);
        for (int bridge = 0; bridge < 4; bridge++) {
            check.due("each bridge is its own root", x.bridge(bridge, 1), 50 + bridge);
        }
    }

    /** Also: "Several links may join the same bridges." */
    private static void sixteenLinks() {
        BridgeAuction x = new BridgeAuction();
        for (int link = 0; link < 16; link++) {
            int number = link;
            check.refused("link before it is added", x, INDEX, () -> x.link(number, 0));
            check.due("addLink", x.addLink(2, 1, 100 - link), link);
            check.due("links", x.links(), link + 1);
            check.due("its cost", x.link(link, 2), 100 - link);
        }
        check.refused("a 17th link", x, STATE, () -> x.addLink(2, 1, 1));
        check.refused("a 17th link of no cost", x, ARGUMENT, () -> x.addLink(2, 1, 0));
        check.refused("a 17th link to itself", x, ARGUMENT, () -> x.addLink(2, 2, 1));
        check.refused("a 17th link to no bridge", x, INDEX, () -> x.addLink(2, 4, 1));
        check.due("links", x.links(), 16);
        check.due("the first of them", x.link(0, 2), 100);
        check.refused("link(16, 0)", x, INDEX, () -> x.link(16, 0));
        x.undo();
        check.due("one fewer", x.links(), 15);
        check.due("the 16th again", x.addLink(0, 3, 7), 15);
    }

    private static void sixteenLinksOfWhichAllAreDown() {
        BridgeAuction x = new BridgeAuction();
        for (int link = 0; link < 16; link++) {
            x.addLink(0, 1, 1);
        }
        for (int link = 0; link < 16; link++) {
            x.fail(link);
        }
        check.refused("a link that is down counts too", x, STATE, () -> x.addLink(0, 1, 1));
    }

    /** "A link joins two different bridges, has a base cost (1 to 100), and is up or down." */
    private static void leastAndGreatestCost() {
        BridgeAuction x = new BridgeAuction();
        x.addLink(0, 1, 1);
        x.addLink(0, 1, 100);
        check.due("the least base cost", x.link(0, 2), 1);
        check.due("the greatest base cost", x.link(1, 2), 100);
    }

    private static void costsOutOfRange() {
        BridgeAuction x = new BridgeAuction();
        check.refused("addLink(0, 1, 0)", x, ARGUMENT, () -> x.addLink(0, 1, 0));
        check.refused("addLink(0, 1, 101)", x, ARGUMENT, () -> x.addLink(0, 1, 101));
        check.refused("addLink(0, 1, -1)", x, ARGUMENT, () -> x.addLink(0, 1, -1));
        check.refused("addLink(0, 4, 101)", x, INDEX, () -> x.addLink(0, 4, 101));
    }

    private static void aLinkJoinsTwoDifferentBridges() {
        BridgeAuction x = new BridgeAuction();
        for (int bridge = 0; bridge < 4; bridge++) {
            int both = bridge;
            check.refused("addLink to itself", x, ARGUMENT, () -> x.addLink(both, both, 1));
        }
        check.refused("addLink(4, 4, 1)", x, INDEX, () -> x.addLink(4, 4, 1));
        check.refused("addLink(-1, -1, 1)", x, INDEX, () -> x.addLink(-1, -1, 1));
    }

    private static void lowerAndHigherBridge() {
        BridgeAuction x = new BridgeAuction();
        x.addLink(3, 0, 1);
        x.addLink(0, 3, 1);
        for (int link = 0; link < 2; link++) {
            check.due("lower bridge", x.link(link, 0), 0);
            check.due("higher bridge", x.link(link, 1), 3);
        }
    }

    /** "up when it is added"; "The cost of a link is its base cost when it is added." */
    private static void upWhenAddedAndEqualToItsBaseCost() {
        BridgeAuction x = new BridgeAuction();
        for (int link = 0; link < 16; link++) {
            x.addLink(0, 1, 33 + link);
            isNew(x, link, 0, 1, 33 + link);
        }
        // One that takes the place of another, which was undone when its ports listened.
        BridgeAuction y = new BridgeAuction();
        y.addLink(0, 1, 33);
        y.tick(2);
        y.undo();
        y.undo();
        y.addLink(2, 1, 34);
        isNew(y, 0, 1, 2, 34);
    }

    /** "3 at first" (delay), "10 at first" (interval), "5 at first" (hysteresis). */
    private static void timesAtFirst() {
        BridgeAuction x = new BridgeAuction();
        x.addLink(0, 1, 1);
        x.addLink(0, 1, 1);
        x.bid(0, 0, 50);
        x.bid(1, 0, 5);
        x.bid(0, 1, 50);
        x.bid(1, 1, 6);
        x.tick(1);
        check.due("delay", x.port(0, false, 2), 3);
        x.tick(9);
        check.due("a difference of the hysteresis", x.link(0, 3), 1);
        check.due("a difference above it", x.link(1, 3), 7);
        check.due("interval", x.setTimes(3, 10, 5), 10);
    }

    /** "delay: 1 to 20, interval: 5 to 100, hysteresis: 0 to 100" */
    private static void leastAndGreatestTimes() {
        BridgeAuction x = new BridgeAuction();
        check.due("the least times", x.setTimes(1, 5, 0), 10);
        check.due("the greatest times", x.setTimes(20, 100, 100), 5);
        int[][] outside = {{0, 5, 0}, {21, 5, 0}, {1, 4, 0}, {1, 101, 0}, {1, 5, -1}, {1, 5, 101}};
        for (int[] t : outside) {
            check.refused("setTimes(" + t[0] + ", " + t[1] + ", " + t[2] + ")", x, ARGUMENT,
                    () -> x.setTimes(t[0], t[1], t[2]));
        }
        check.due("the interval stays", x.setTimes(20, 100, 100), 100);
    }

    /** "Timers that run go on." */
    private static void timersThatRunGoOn() {
        BridgeAuction x = new BridgeAuction();
        x.addLink(0, 1, 1);
        x.tick(1);
        x.setTimes(20, 10, 5);
        check.due("the timer", x.port(0, true, 2), 3);
        x.tick(1);
        check.due("one less", x.port(0, true, 2), 2);
        x.setTimes(1, 10, 5);
        x.tick(1);
        check.due("and one less", x.port(0, true, 2), 1);
        check.due("listening", x.port(0, true, 1), BridgeAuction.LISTENING);
        x.tick(1);
        check.due("learning", x.port(0, true, 1), BridgeAuction.LEARNING);
        check.due("with the new delay", x.port(0, true, 2), 1);
    }

    /** "delay, interval and hysteresis stay" */
    private static void timesStayWhenAllBeginsAnew() {
        BridgeAuction x = new BridgeAuction();
        x.setTimes(20, 7, 1);
        x.setBridges(2);
        x.addLink(0, 1, 9);
        x.bid(0, 0, 4);
        x.bid(1, 0, 2);
        x.tick(1);
        check.due("delay", x.port(0, false, 2), 20);
        x.tick(6);
        check.due("interval", x.count(0), 1);
        check.due("hysteresis", x.link(0, 3), 11);
        check.due("interval", x.setTimes(1, 5, 0), 7);
    }

    /** "time, priorities, links, hosts, credits, bids, tables and counts are as at first" */
    private static void allElseBeginsAnew() {
        BridgeAuction x = Recipe.full();
        x.setPriority(2, 9);
        x.moveHost(7, 1);
        x.setBridges(8);
        BridgeAuction y = new BridgeAuction();
        y.setTimes(1, 10, 5);
        y.setBridges(4);
        y.setBridges(8);
        Check.type(y, " ".repeat(120));
        check.due("digest", x.digest(), y.digest());
        check.due("time", x.tick(1), 1);
    }

    /** Links that were won, that had waited for another cost, and whose ports listened or forwarded. */
    private static void linksThatAreAddedThenAreNew() {
        BridgeAuction x = new BridgeAuction();
        x.setTimes(20, 10, 5);
        for (int link = 0; link < 16; link++) {
            x.addLink(1, 2, 9);
            for (int tenant = 0; tenant < 4; tenant++) {
                x.bid(tenant, link, 4 - tenant);
            }
        }
        x.tick(10);
        x.fail(1);
        x.fix(1);
        x.tick(1);
        x.fail(2);
        check.due("won", x.tenant(0, 1), 14);
        check.due("got back", x.tenant(0, 3) > 0, true);
        x.setBridges(4);
        for (int tenant = 0; tenant < 4; tenant++) {
            int[] first = {100, 0, 0, 0};
            for (int what = 0; what < 4; what++) {
                check.due("tenant " + tenant + ", " + what, x.tenant(tenant, what), first[what]);
            }
        }
        for (int link = 0; link < 16; link++) {
            x.addLink(3, 0, 7);
            isNew(x, link, 0, 3, 7);
        }
    }

    private static void isNew(BridgeAuction x, int link, int low, int high, int cost) {
        int[] due = {low, high, cost, cost, 1, NONE, 0, 0, 0};
        for (int what = 0; what < 9; what++) {
            check.due("link(" + link + ", " + what + ")", x.link(link, what), due[what]);
        }
        for (int tenant = 0; tenant < 4; tenant++) {
            check.due("no bid for " + link, x.bidOf(tenant, link), 0);
        }
        int[] port = {BridgeAuction.ALTERNATE, BridgeAuction.BLOCKING, 0};
        for (int what = 0; what < 3; what++) {
            check.due("lower port of " + link, x.port(link, false, what), port[what]);
            check.due("higher port of " + link, x.port(link, true, what), port[what]);
        }
    }

    /** "Lets a link fail: it is down." */
    private static void failOfEveryLink() {
        BridgeAuction x = new BridgeAuction();
        for (int link = 0; link < 16; link++) {
            x.addLink(0, 1, 1);
        }
        for (int link = 0; link < 16; link++) {
            int number = link;
            check.refused("fix of a link that is up", x, STATE, () -> x.fix(number));
            check.due("without a winner", x.fail(link), 0);
            check.due("it is down", x.link(link, 4), 0);
            check.refused("fail of a link that is down", x, STATE, () -> x.fail(number));
        }
        check.refused("fail(16)", x, INDEX, () -> x.fail(16));
        check.refused("fail(-1)", x, INDEX, () -> x.fail(-1));
    }

    /** "Returns the number of links that are up." */
    private static void fixTellsHowManyAreUp() {
        BridgeAuction x = new BridgeAuction();
        for (int link = 0; link < 16; link++) {
            x.addLink(0, 1, 1);
        }
        for (int link = 0; link < 16; link++) {
            x.fail(link);
        }
        for (int link = 15; link >= 0; link--) {
            check.due("fix(" + link + ")", x.fix(link), 16 - link);
        }
        check.refused("fix(16)", x, INDEX, () -> x.fix(16));
        check.refused("fix(-1)", x, INDEX, () -> x.fix(-1));
    }

    /** "host: 0 to 7", "bridge: 0 to B - 1" */
    private static void hostsAtTheFirstAndTheLastBridge() {
        BridgeAuction x = new BridgeAuction();
        check.due("moveHost(0, 3)", x.moveHost(0, 3), 0);
        check.due("moveHost(7, 0)", x.moveHost(7, 0), 3);
        check.due("moveHost(0, 3) again", x.moveHost(0, 3), 3);
        check.refused("moveHost(-1, 0)", x, INDEX, () -> x.moveHost(-1, 0));
        check.refused("moveHost(8, 0)", x, INDEX, () -> x.moveHost(8, 0));
        check.refused("moveHost(0, -1)", x, INDEX, () -> x.moveHost(0, -1));
        check.refused("moveHost(0, 4)", x, INDEX, () -> x.moveHost(0, 4));
    }

    /** "a bid (0 to 1000, 0 at first), which stays until it is changed" */
    private static void leastAndGreatestBid() {
        BridgeAuction x = new BridgeAuction();
        x.addLink(0, 1, 1);
        check.due("bid(0, 0, 1000)", x.bid(0, 0, 1000), 0);
        check.refused("bid(0, 0, 1001)", x, ARGUMENT, () -> x.bid(0, 0, 1001));
        check.refused("bid(0, 0, -1)", x, ARGUMENT, () -> x.bid(0, 0, -1));
        check.refused("bid(4, 0, 1001)", x, INDEX, () -> x.bid(4, 0, 1001));
        check.refused("bid(0, 1, -1)", x, INDEX, () -> x.bid(0, 1, -1));
        x.tick(200);
        check.due("it stays", x.bidOf(0, 0), 1000);
        check.due("bid(0, 0, 0)", x.bid(0, 0, 0), 1000);
        check.due("the least bid", x.bidOf(0, 0), 0);
        x.fail(0);
        check.due("a bid for a link that is down", x.bid(0, 0, 5), 0);
        check.due("is kept", x.bidOf(0, 0), 5);
    }

    private static void bidsOfTheFirstAndTheLastTenantAndLink() {
        BridgeAuction x = new BridgeAuction();
        for (int link = 0; link < 16; link++) {
            x.addLink(0, 1, 1);
        }
        for (int tenant = 0; tenant < 4; tenant++) {
            for (int link = 0; link < 16; link++) {
                check.due("bid", x.bid(tenant, link, 100 * tenant + link), 0);
            }
        }
        for (int tenant = 0; tenant < 4; tenant++) {
            for (int link = 0; link < 16; link++) {
                check.due("bidOf", x.bidOf(tenant, link), 100 * tenant + link);
            }
        }
        check.refused("bidOf(0, 16)", x, INDEX, () -> x.bidOf(0, 16));
        check.refused("bidOf(4, 0)", x, INDEX, () -> x.bidOf(4, 0));
        check.refused("bidOf(-1, 0)", x, INDEX, () -> x.bidOf(-1, 0));
        check.refused("bidOf(0, -1)", x, INDEX, () -> x.bidOf(0, -1));
    }

    /** "credits: 0 to 10000" */
    private static void leastAndGreatestGrant() {
        BridgeAuction x = new BridgeAuction();
        check.due("grant(0, 0)", x.grant(0, 0), 100);
        check.due("grant(3, 10000)", x.grant(3, 10000), 10100);
        check.refused("grant(3, 10001)", x, ARGUMENT, () -> x.grant(3, 10001));
        check.refused("grant(3, -1)", x, ARGUMENT, () -> x.grant(3, -1));
        check.refused("grant(4, 10001)", x, INDEX, () -> x.grant(4, 10001));
        check.refused("grant(-1, -1)", x, INDEX, () -> x.grant(-1, -1));
    }

    /** "IllegalStateException if the tenant would have more than 1000000" */
    private static void upToAMillion() {
        BridgeAuction x = Recipe.full();
        check.due("a million", x.tenant(3, 0), 1000000);
        check.due("grant of nothing", x.grant(3, 0), 1000000);
        check.refused("grant of 1", x, STATE, () -> x.grant(3, 1));
        check.refused("grant of 10000", x, STATE, () -> x.grant(3, 10000));
        check.refused("grant of 10001", x, ARGUMENT, () -> x.grant(3, 10001));
        check.due("another tenant", x.grant(2, 1), 111);
    }

    /** What comes back after a failure is not refused, but any grant is then. */
    private static void aboveAMillionByARefund() {
        BridgeAuction x = new BridgeAuction();
        x.addLink(0, 1, 1);
        x.grant(0, 1000);
        x.grant(1, 1000);
        x.bid(0, 0, 900);
        x.bid(1, 0, 900);
        x.tick(10);
        check.due("credits after the auction", x.tenant(0, 0), 1010 - 900);
        while (x.tenant(0, 0) <= 990000) {
            x.grant(0, 10000);
        }
        check.due("a million", x.grant(0, 1000000 - x.tenant(0, 0)), 1000000);
        check.due("fail", x.fail(0), 900);
        check.due("more than a million", x.tenant(0, 0), 1000900);
        check.refused("grant of nothing", x, STATE, () -> x.grant(0, 0));
        x.tick(10);
        check.due("floor(9 * 1000900 / 10) + 20", x.tenant(0, 0), 900830);
    }
}
