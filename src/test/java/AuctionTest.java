/** Promises 6, 9, 16, 19, 20 and 21: auctions, costs with hysteresis, and what is paid and got back. */
final class AuctionTest {
    private static final Check check = new Check();
    private static final int NONE = BridgeAuction.NONE;

    public static void main(String[] args) {
        decay();
        winnersAndPrices();
        creditsOfTheMoment();
        linksThatAreDown();
        hysteresis();
        threeInARow();
        costsCountForVectorsAtOnce();
        refunds();
        intervalChanges();
        wrongValues();
        check.finish();
    }

    private static void sold(BridgeAuction x, int link, int winner, int price) {
        check.due("at " + x.time() + " winner of " + link, x.link(link, 5), winner);
        check.due("at " + x.time() + " price of " + link, x.link(link, 6), price);
    }

    private static void decay() {
        BridgeAuction x = new BridgeAuction();
        x.grant(1, 9);
        x.tick(9);
        check.due("before the auction", x.tenant(0, 0), 100);
        check.due("auctions", x.count(0), 0);
        x.tick(1);
        check.due("floor(9 * 100 / 10) + 20", x.tenant(0, 0), 110);
        check.due("floor(9 * 109 / 10) + 20", x.tenant(1, 0), 118);
        check.due("auctions", x.count(0), 1);
        x.tick(190);
        check.due("auctions", x.count(0), 20);
    }

    private static void winnersAndPrices() {
        BridgeAuction x = new BridgeAuction();
        for (int i = 0; i < 6; i++) {
            x.addLink(0, 1, 10);
        }
        x.bid(3, 1, 8);
        x.bid(1, 2, 5);
        x.bid(2, 2, 9);
        x.bid(3, 2, 7);
        x.bid(2, 3, 4);
        x.bid(1, 3, 4);
        x.bid(3, 3, 4);
        x.bid(0, 4, 6);
        x.bid(1, 4, 1);
        x.bid(2, 5, 1);
        x.tick(10);
        sold(x, 0, NONE, 0);
        sold(x, 1, 3, 1);
        sold(x, 2, 2, 7);
        sold(x, 3, 1, 4);
        sold(x, 4, 0, 1);
        sold(x, 5, 2, 1);
        check.due("won by 2", x.tenant(2, 1), 2);
        check.due("credits of 2", x.tenant(2, 0), 110 - 8);
        check.due("paid by 2", x.tenant(2, 2), 8);
        check.due("won by 1", x.tenant(1, 1), 1);
        check.due("paid by 0", x.tenant(0, 2), 1);
        check.due("a bid stays", x.bidOf(2, 2), 9);
        x.bid(2, 2, 0);
        check.due("won until the next auction", x.link(2, 5), 2);
        x.tick(10);
        sold(x, 2, 3, 5);
        check.due("paid by 2 in all", x.tenant(2, 2), 9);
        check.due("paid by 3 in all", x.tenant(3, 2), 1 + 1 + 5);
    }

    private static void creditsOfTheMoment() {
        BridgeAuction x = new BridgeAuction();
        x.addLink(0, 1, 10);
        x.addLink(0, 1, 10);
        x.addLink(0, 1, 10);
        // All have 110 in the auction.
        x.bid(0, 0, 110);
        x.bid(1, 0, 111);
        x.bid(2, 0, 60);
        x.bid(0, 1, 51);
        x.bid(0, 2, 50);
        x.tick(10);
        sold(x, 0, 0, 60);
        sold(x, 1, NONE, 0);
        sold(x, 2, 0, 1);
        check.due("credits of 0", x.tenant(0, 0), 49);
        check.due("credits of 1", x.tenant(1, 0), 110);
        // 1 has 119 now, and its 111 count; 0 has 64.
        x.tick(10);
        sold(x, 0, 1, 60);
        sold(x, 1, 0, 1);
        check.due("credits of 1", x.tenant(1, 0), 59);
    }

    private static void linksThatAreDown() {
        BridgeAuction x = new BridgeAuction();
        x.addLink(0, 1, 10);
        x.bid(0, 0, 40);
        x.bid(1, 0, 30);
        x.tick(10);
        check.due("cost", x.link(0, 3), 40);
        check.due("fail(0)", x.fail(0), 30);
        sold(x, 0, NONE, 0);
        check.due("the cost stays until the auction", x.link(0, 3), 40);
        x.tick(10);
        sold(x, 0, NONE, 0);
        check.due("cost", x.link(0, 3), 10);
        check.due("won by 0", x.tenant(0, 1), 0);
        check.due("paid by 0", x.tenant(0, 2), 30);
        check.due("got back by 0", x.tenant(0, 3), 30);
    }

    private static void hysteresis() {
        BridgeAuction x = new BridgeAuction();
        x.addLink(0, 1, 10);
        x.addLink(0, 1, 10);
        x.bid(0, 0, 50);
        x.bid(1, 0, 5);
        x.bid(0, 1, 50);
        x.bid(1, 1, 6);
        x.tick(10);
        check.due("differs by 5: cost", x.link(0, 3), 10);
        check.due("differs by 5: in a row", x.link(0, 8), 1);
        check.due("differs by 6: cost", x.link(1, 3), 16);
        check.due("differs by 6: in a row", x.link(1, 8), 0);
        x.setTimes(3, 10, 0);
        x.tick(10);
        check.due("hysteresis 0: cost", x.link(0, 3), 15);
        check.due("hysteresis 0: in a row", x.link(0, 8), 0);
        check.due("no difference: in a row", x.link(1, 8), 0);
        x.bid(0, 1, 0);
        x.bid(1, 1, 0);
        x.setTimes(3, 10, 6);
        x.tick(10);
        check.due("lower by 6: cost", x.link(1, 3), 16);
        x.setTimes(3, 10, 5);
        x.tick(10);
        check.due("lower by 6, hysteresis 5: cost", x.link(1, 3), 10);
        check.due("base cost stays", x.link(1, 2), 10);
        x.setTimes(3, 10, 100);
        x.grant(0, 1000);
        x.grant(1, 1000);
        x.bid(0, 1, 200);
        x.bid(1, 1, 100);
        x.tick(10);
        check.due("100: cost", x.link(1, 3), 10);
        x.bid(1, 1, 101);
        x.tick(10);
        check.due("101: cost", x.link(1, 3), 111);
    }

    private static void threeInARow() {
        BridgeAuction x = new BridgeAuction();
        x.addLink(0, 1, 10);
        x.bid(0, 0, 3);
        x.tick(20);
        check.due("in a row", x.link(0, 8), 2);
        x.bid(0, 0, 0);
        x.tick(10);
        check.due("broken", x.link(0, 8), 0);
        x.bid(0, 0, 3);
        x.bid(1, 0, 2);
        x.tick(10);
        x.bid(1, 0, 3);
        x.tick(10);
        check.due("in a row, by other wanted costs", x.link(0, 8), 2);
        check.due("cost", x.link(0, 3), 10);
        x.bid(1, 0, 0);
        x.tick(10);
        check.due("the cost is the latest wanted one", x.link(0, 3), 11);
        check.due("in a row", x.link(0, 8), 0);
        x.bid(0, 0, 0);
        x.tick(10);
        check.due("in a row", x.link(0, 8), 1);
        x.fail(0);
        check.due("a failure does not change it", x.link(0, 8), 1);
        x.tick(20);
        check.due("also when it is down", x.link(0, 3), 10);
    }

    private static void costsCountForVectorsAtOnce() {
        BridgeAuction x = new BridgeAuction();
        x.addLink(0, 1, 10);
        x.addLink(0, 1, 12);
        x.bid(0, 0, 20);
        x.bid(1, 0, 20);
        x.tick(9);
        check.due("root link", x.bridge(1, 4), 0);
        check.due("cost", x.bridge(1, 2), 10);
        x.tick(1);
        check.due("root link", x.bridge(1, 4), 1);
        check.due("cost", x.bridge(1, 2), 12);
        check.due("role", x.port(0, true, 0), BridgeAuction.ALTERNATE);
        check.due("role", x.port(1, true, 0), BridgeAuction.ROOT);
    }

    private static void refunds() {
        int[] wait = {0, 1, 5, 9};
        int[] back = {31, 27, 15, 3};
        for (int i = 0; i < wait.length; i++) {
            BridgeAuction x = new BridgeAuction();
            x.addLink(0, 1, 10);
            x.bid(2, 0, 50);
            x.bid(1, 0, 31);
            x.tick(10);
            if (wait[i] > 0) {
                x.tick(wait[i]);
            }
            check.due("fail after " + wait[i], x.fail(0), back[i]);
            check.due("credits", x.tenant(2, 0), 110 - 31 + back[i]);
            check.due("paid", x.tenant(2, 2), 31);
            check.due("got back", x.tenant(2, 3), back[i]);
            check.due("got back by another", x.tenant(1, 3), 0);
            check.due("won", x.tenant(2, 1), 0);
            x.fix(0);
            check.due("no second time", x.fail(0), 0);
        }
        BridgeAuction x = new BridgeAuction();
        x.addLink(0, 1, 10);
        x.bid(2, 0, 50);
        x.tick(11);
        check.due("floor(1 * 9 / 10)", x.fail(0), 0);
    }

    private static void intervalChanges() {
        BridgeAuction x = new BridgeAuction();
        x.addLink(0, 1, 10);
        x.bid(2, 0, 50);
        x.bid(1, 0, 40);
        x.tick(12);
        x.setTimes(3, 7, 5);
        // The next auction is at 14, two ticks from now.
        check.due("floor(40 * 2 / 7)", x.fail(0), 11);
        x.fix(0);
        x.tick(1);
        check.due("auctions", x.count(0), 1);
        x.tick(1);
        check.due("auctions", x.count(0), 2);
        x.setTimes(3, 14, 5);
        check.due("a multiple: the whole price", x.fail(0), x.tenant(2, 2) - 40);
    }

    private static void wrongValues() {
        BridgeAuction x = new BridgeAuction();
        x.addLink(0, 1, 1);
        Class<IndexOutOfBoundsException> index = IndexOutOfBoundsException.class;
        Class<IllegalArgumentException> argument = IllegalArgumentException.class;
        check.refused("link(1, 9)", x, index, () -> x.link(1, 9));
        check.refused("link(-1, 0)", x, index, () -> x.link(-1, 0));
        check.refused("link(0, 9)", x, argument, () -> x.link(0, 9));
        check.refused("link(0, -1)", x, argument, () -> x.link(0, -1));
        check.refused("tenant(4, 4)", x, index, () -> x.tenant(4, 4));
        check.refused("tenant(-1, 0)", x, index, () -> x.tenant(-1, 0));
        check.refused("tenant(0, 4)", x, argument, () -> x.tenant(0, 4));
        check.refused("tenant(0, -1)", x, argument, () -> x.tenant(0, -1));
        check.refused("count(7)", x, argument, () -> x.count(7));
        check.refused("count(-1)", x, argument, () -> x.count(-1));
    }
}
