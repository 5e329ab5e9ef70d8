/**
 * The edges that the document names for frames, tables and paths (promises 13, 18, 21 and 22): one
 * method for each sentence.
 */
final class EdgeFrameTest {
    private static final Check check = new Check();
    private static final int NONE = BridgeAuction.NONE;
    private static final int ITSELF = 100;
    private static final Class<IndexOutOfBoundsException> INDEX = IndexOutOfBoundsException.class;
    private static final Class<IllegalArgumentException> ARGUMENT = IllegalArgumentException.class;

    public static void main(String[] args) {
        emptyTablesAtFirst();
        firstAndLastHost();
        noLinkAtAll();
        receivedFromTheHostItself();
        validForFiftyTicks();
        anEntryOfTimeZero();
        anEntryMadeAnewCountsFromThen();
        anEntryForEachOfEightHosts();
        atMostOneEntryForAHost();
        oldEntriesAreReplaced();
        notSentOnWhereItIsDelivered();
        floodedThoughDeliveredElsewhere();
        forwardedByOneLinkAlone();
        floodedWithoutAValidEntry();
        floodedIfTheLinkDoesNotCarry();
        floodedIfItCameByThatLink();
        floodedIfTheEntryIsTheBridgeItself();
        notByTheLinkByWhichItCame();
        bySevenLinks();
        linksThatCarryAndPairs();
        countsOfFrames();
        forestWithoutLinks();
        check.finish();
    }

    /** A line of bridges, all of whose links carry frames, and in which no auction comes soon. */
    private static BridgeAuction line(int bridges) {
        BridgeAuction x = new BridgeAuction();
        x.setBridges(bridges);
        x.setTimes(1, 100, 5);
        for (int bridge = 0; bridge + 1 < bridges; bridge++) {
            x.addLink(bridge, bridge + 1, 5);
        }
        x.tick(11);
        return x;
    }

    /** The bridge 0 in the middle, with a link to each of the others. */
    private static BridgeAuction star(int bridges) {
        BridgeAuction x = new BridgeAuction();
        x.setBridges(bridges);
        x.setTimes(1, 100, 5);
        for (int bridge = 1; bridge < bridges; bridge++) {
            x.addLink(0, bridge, 5);
        }
        x.tick(11);
        return x;
    }

    /** "Each bridge has a table with at most one entry for each host" */
    private static void emptyTablesAtFirst() {
        BridgeAuction x = new BridgeAuction();
        for (int bridge = 0; bridge < 4; bridge++) {
            check.due("entries", x.bridge(bridge, 5), 0);
            for (int host = 0; host < 8; host++) {
                check.due("entry", x.entry(bridge, host), NONE);
            }
        }
        check.refused("entry(4, 0)", x, INDEX, () -> x.entry(4, 0));
        check.refused("entry(-1, 0)", x, INDEX, () -> x.entry(-1, 0));
        check.refused("entry(0, 8)", x, INDEX, () -> x.entry(0, 8));
        check.refused("entry(0, -1)", x, INDEX, () -> x.entry(0, -1));
    }

    /** "from: host, 0 to 7", "to: another host, 0 to 7" */
    private static void firstAndLastHost() {
        BridgeAuction x = line(8);
        check.due("send(0, 7)", x.send(0, 7), 1007);
        check.due("send(7, 0)", x.send(7, 0), 1007);
        check.refused("send(8, 0)", x, INDEX, () -> x.send(8, 0));
        check.refused("send(-1, 0)", x, INDEX, () -> x.send(-1, 0));
        check.refused("send(0, 8)", x, INDEX, () -> x.send(0, 8));
        check.refused("send(0, -1)", x, INDEX, () -> x.send(0, -1));
        check.refused("send(8, 8)", x, INDEX, () -> x.send(8, 8));
        check.refused("send(-1, -1)", x, INDEX, () -> x.send(-1, -1));
        for (int host = 0; host < 8; host++) {
            int both = host;
            check.refused("send to itself", x, ARGUMENT, () -> x.send(both, both));
        }
    }

    private static void noLinkAtAll() {
        BridgeAuction x = new BridgeAuction();
        check.due("to another bridge", x.send(0, 1), 0);
        check.due("to the same bridge", x.send(0, 4), 1000);
        check.due("sent", x.count(2), 2);
        check.due("delivered", x.count(3), 1);
        check.due("used", x.count(4), 0);
    }

    /** "it is received by the bridge of g, from g itself" */
    private static void receivedFromTheHostItself() {
        BridgeAuction x = line(3);
        x.moveHost(7, 2);
        x.send(7, 6);
        check.due("at its own bridge", x.entry(2, 7), ITSELF);
        check.due("at the next one", x.entry(1, 7), 1);
        check.due("at the last one", x.entry(0, 7), 0);
        check.due("no entry for the one that it is sent to", x.entry(0, 6), NONE);
    }

    /** "An entry is valid if it was made at most 50 ticks ago." */
    private static void validForFiftyTicks() {
        BridgeAuction x = star(4);
        x.send(1, 0);
        x.send(2, 1);
        x.tick(50);
        check.due("entry of a link after 50", x.entry(0, 1), 0);
        check.due("entry of itself after 50", x.entry(1, 1), ITSELF);
        check.due("by one link alone", x.send(0, 1), 1001);
        x.tick(1);
        check.due("entry of a link after 51", x.entry(0, 1), NONE);
        check.due("entry of itself after 51", x.entry(1, 1), NONE);
        check.due("entries, valid or not", x.bridge(0, 5), 3);
        check.due("flooded", x.send(0, 1), 1003);
    }

    private static void anEntryOfTimeZero() {
        BridgeAuction x = new BridgeAuction();
        x.send(0, 1);
        check.due("at once", x.entry(0, 0), ITSELF);
        x.tick(50);
        check.due("after 50", x.entry(0, 0), ITSELF);
        x.tick(1);
        check.due("after 51", x.entry(0, 0), NONE);
        check.due("it is there even so", x.bridge(0, 5), 1);
        x.tick(200);
        check.due("and stays", x.bridge(0, 5), 1);
    }

    /** "makes an entry for g with this link (or itself) and the present time, replacing an older one" */
    private static void anEntryMadeAnewCountsFromThen() {
        BridgeAuction x = line(2);
        x.send(1, 0);
        x.tick(50);
        x.send(1, 0);
        x.tick(50);
        check.due("50 after the second one", x.entry(0, 1), 0);
        x.tick(1);
        check.due("51 after the second one", x.entry(0, 1), NONE);
        x.send(1, 0);
        check.due("an old one is made anew", x.entry(0, 1), 0);
    }

    private static void anEntryForEachOfEightHosts() {
        BridgeAuction x = line(2);
        for (int host = 0; host < 8; host++) {
            x.moveHost(host, 0);
            x.send(host, (host + 1) % 8);
            check.due("entries", x.bridge(0, 5), host + 1);
        }
        for (int host = 0; host < 8; host++) {
            check.due("entry", x.entry(0, host), ITSELF);
        }
    }

    private static void atMostOneEntryForAHost() {
        BridgeAuction x = line(2);
        x.send(0, 1);
        x.send(0, 1);
        x.moveHost(0, 1);
        x.send(0, 2);
        check.due("entries of 0", x.bridge(0, 5), 1);
        check.due("entries of 1", x.bridge(1, 5), 1);
    }

    private static void oldEntriesAreReplaced() {
        BridgeAuction x = line(2);
        x.send(0, 1);
        check.due("at 0", x.entry(0, 0), ITSELF);
        check.due("at 1", x.entry(1, 0), 0);
        x.moveHost(0, 1);
        check.due("a move alone changes no table", x.entry(0, 0), ITSELF);
        x.send(0, 2);
        check.due("at 0 then", x.entry(0, 0), 0);
        check.due("at 1 then", x.entry(1, 0), ITSELF);
    }

    /** "If h is at this bridge, the frame is delivered, and not sent on from there." */
    private static void notSentOnWhereItIsDelivered() {
        BridgeAuction x = line(4);
        check.due("two links of three", x.send(0, 2), 1002);
        check.due("the last bridge has not got it", x.entry(3, 0), NONE);
        check.due("the same bridge", x.send(0, 4), 1000);
    }

    private static void floodedThoughDeliveredElsewhere() {
        BridgeAuction x = star(4);
        check.due("by all three", x.send(0, 1), 1003);
        for (int bridge = 1; bridge < 4; bridge++) {
            check.due("got by " + bridge, x.entry(bridge, 0), bridge - 1);
        }
    }

    /** "the frame is sent on by this link alone" */
    private static void forwardedByOneLinkAlone() {
        BridgeAuction x = star(4);
        x.send(3, 0);
        check.due("by one", x.send(0, 3), 1001);
        check.due("the others have not got it", x.entry(1, 0), NONE);
        check.due("through the middle", x.send(1, 3), 1002);
        check.due("not to the third", x.entry(2, 1), NONE);
        x.moveHost(3, 1);
        check.due("the entry leads to where it was", x.send(0, 3), 1);
    }

    /** "otherwise it is flooded" */
    private static void floodedWithoutAValidEntry() {
        BridgeAuction x = star(4);
        check.due("without an entry", x.send(0, 3), 1003);
        x.send(3, 0);
        x.tick(51);
        check.due("with one that is not valid any more", x.send(0, 3), 1003);
    }

    private static void floodedIfTheLinkDoesNotCarry() {
        BridgeAuction x = star(4);
        x.send(3, 0);
        x.fail(2);
        check.due("the entry is valid", x.entry(0, 3), 2);
        check.due("by the other two", x.send(0, 3), 2);
        check.due("got by 1", x.entry(1, 0), 0);
        check.due("got by 2", x.entry(2, 0), 1);
        x.fix(2);
        check.due("by that link alone again", x.send(0, 3), 1001);
    }

    /** "and that is not the one by which the frame came" */
    private static void floodedIfItCameByThatLink() {
        BridgeAuction x = star(4);
        x.send(3, 0);
        x.moveHost(3, 2);
        // The bridge in the middle knows host 3 by link 2, and the frame comes by link 2.
        check.due("by link 2, then by 0 and 1", x.send(7, 3), 1003);
    }

    private static void floodedIfTheEntryIsTheBridgeItself() {
        BridgeAuction x = star(4);
        x.send(0, 1);
        x.moveHost(0, 3);
        check.due("the bridge knows it as its own", x.entry(0, 0), ITSELF);
        check.due("by all three", x.send(4, 0), 1003);
    }

    /** "sent on by all links of the bridge that carry frames, except the one by which it came" */
    private static void notByTheLinkByWhichItCame() {
        BridgeAuction x = line(3);
        x.fail(0);
        // Bridge 1 has no link that carries but the one by which the frame came.
        check.due("to bridge 1 and not back", x.send(2, 0), 1);
        check.due("got by 1", x.entry(1, 2), 1);
        check.due("not got back by 2", x.entry(2, 2), ITSELF);
    }

    private static void bySevenLinks() {
        BridgeAuction farthest = line(8);
        check.due("to the far end", farthest.send(0, 7), 1007);
        BridgeAuction widest = star(8);
        check.due("by all at once", widest.send(0, 7), 1007);
        check.due("back by one", widest.send(7, 0), 1001);
        check.due("used", widest.count(4), 8);
    }

    /** "5 links that carry frames now, 6 pairs of different bridges that can reach each other" */
    private static void linksThatCarryAndPairs() {
        for (int bridges = 2; bridges <= 8; bridges++) {
            BridgeAuction[] both = {line(bridges), star(bridges)};
            for (BridgeAuction x : both) {
                check.due("carrying", x.count(5), bridges - 1);
                check.due("pairs", x.count(6), bridges * (bridges - 1) / 2);
                check.due("isForest", x.isForest(), true);
                x.fail(0);
                check.due("carrying then", x.count(5), bridges - 2);
                check.due("pairs then", x.count(6), (bridges - 1) * (bridges - 2) / 2);
            }
        }
        // The lowest bridge is joined to the others from above, and left by them again.
        BridgeAuction x = new BridgeAuction();
        x.addLink(0, 2, 1);
        x.addLink(1, 2, 1);
        x.tick(10);
        check.due("0, 1 and 2", x.count(6), 3);
        x.fail(1);
        check.due("0 and 2", x.count(6), 1);
        x.fail(0);
        check.due("none", x.count(6), 0);
        BridgeAuction halves = line(8);
        halves.fail(3);
        check.due("two halves", halves.count(6), 12);
    }

    private static void countsOfFrames() {
        BridgeAuction x = line(3);
        x.send(0, 2);
        x.send(0, 1);
        x.fail(0);
        x.send(0, 2);
        check.due("sent", x.count(2), 3);
        check.due("delivered", x.count(3), 2);
        check.due("used", x.count(4), 3);
        x.undo();
        check.due("sent, undone", x.count(2), 2);
    }

    /** "Tells whether the links that carry frames form no cycle." */
    private static void forestWithoutLinks() {
        BridgeAuction x = new BridgeAuction();
        check.due("without links", x.isForest(), true);
        for (int link = 0; link < 16; link++) {
            x.addLink(link % 4, (link + 1) % 4, 1);
        }
        check.due("with links that do not carry yet", x.isForest(), true);
        for (int time = 1; time <= 20; time++) {
            x.tick(1);
            check.due("as many as a forest can have", x.count(5) <= 3, true);
            check.due("isForest", x.isForest(), true);
        }
        check.due("a tree", x.count(5), 3);
    }
}
