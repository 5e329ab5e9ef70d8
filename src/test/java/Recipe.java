/** Makes the same object as often as it is asked for. */
interface Recipe {
    BridgeAuction make();

    /** A call of an object; one without an answer tells 0. */
    interface Call {
        long on(BridgeAuction x);
    }

    /** A new object, with nothing in it that can be empty. */
    static BridgeAuction empty() {
        return new BridgeAuction();
    }

    /**
     * Four bridges, of which 0 to 2 are joined; link 2 has another cost than its base cost, link 3
     * is down and its winner got something back, a frame was lost, and three states are saved.
     */
    static BridgeAuction busy() {
        BridgeAuction x = new BridgeAuction();
        x.setTimes(1, 10, 20);
        x.setPriority(3, 7);
        x.addLink(0, 1, 5);
        x.addLink(1, 2, 7);
        x.addLink(1, 0, 40);
        x.addLink(3, 2, 9);
        x.bid(0, 0, 60);
        x.bid(2, 0, 8);
        x.bid(1, 2, 50);
        x.bid(3, 2, 30);
        x.bid(2, 3, 12);
        x.bid(0, 3, 11);
        x.tick(12);
        x.send(0, 2);
        x.tick(2);
        x.fail(3);
        x.send(1, 3);
        x.send(0, 1);
        Check.type(x, "host 0 2; tick 3;");
        return x;
    }

    /** Eight bridges, 16 links of which 15 is down, 120 bytes, and tenant 3 with a million. */
    static BridgeAuction full() {
        BridgeAuction x = new BridgeAuction();
        x.setBridges(8);
        x.setTimes(1, 10, 5);
        for (int link = 0; link < 16; link++) {
            x.addLink(link % 8, (link + 1 + link / 8) % 8, 1 + link);
        }
        x.bid(3, 15, 7);
        x.bid(1, 0, 50);
        x.tick(12);
        x.send(0, 7);
        x.fail(15);
        while (x.tenant(3, 0) <= 990000) {
            x.grant(3, 10000);
        }
        x.grant(3, 1000000 - x.tenant(3, 0));
        Check.type(x, "tick 9;".repeat(17) + " ");
        return x;
    }
}
