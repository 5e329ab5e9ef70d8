/**
 * The edges that the document names for auctions, costs and refunds (promises 6, 9, 16, 19 and 21):
 * one method for each sentence.
 */
final class EdgeAuctionTest {
    private static final Check check = new Check();
    private static final int NONE = BridgeAuction.NONE;
    private static final Class<IndexOutOfBoundsException> INDEX = IndexOutOfBoundsException.class;
    private static final Class<IllegalArgumentException> ARGUMENT = IllegalArgumentException.class;

    public static void main(String[] args) {
        hundredCreditsAtFirst();
        leastAndGreatestInterval();
        noAuctionBeforeTheFirstTick();
        multiplesOfANewInterval();
        decayIsRoundedDown();
        decayOfAMillion();
        decayComesToRest();
        bidsOfZeroDoNotCount();
        bidsUpToTheCreditsCount();
        creditsAfterTheDecay();
        creditsAfterEarlierLinks();
        lowestTenantAmongEqualBids();
        secondBids();
        secondBidsThatDoNotCount();
        noBidThatCounts();
        greatestBids();
        oneTenantWinsSixteenLinks();
        noWinnerOfALinkThatIsDown();
        upByTheHysteresisOrMore();
        downByTheHysteresisOrMore();
        theThirdAuctionInARow();
        aRowThatIsBroken();
        aRowWithoutAChangeOfTheWantedCost();
        refundsOfEveryTick();
        refundsOfTheLeastAndTheGreatestInterval();
        refundWithANewInterval();
        noRefundWithoutAWinner();
        noWinnerAndNoPriceAfterAFailure();
        valuesOfALink();
        valuesOfATenant();
        countsAtFirst();
        check.finish();
    }

    private static void sold(BridgeAuction x, int link, int winner, int price) {
        check.due("at " + x.time() + " winner of " + link, x.link(link, 5), winner);
        check.due("at " + x.time() + " price of " + link, x.link(link, 6), price);
    }

    /** One link of the base cost 10 that tenant 0 wins at the price, with a bid that counts. */
    private static BridgeAuction sale(int price) {
        BridgeAuction x = new BridgeAuction();
        x.addLink(0, 1, 10);
        x.bid(0, 0, 110);
        x.bid(1, 0, price);
        return x;
    }

    /** "There are four tenants, numbered from 0, each with credits (100 at first)." */
    private static void hundredCreditsAtFirst() {
        BridgeAuction x = new BridgeAuction();
        for (int tenant = 0; tenant < 4; tenant++) {
            check.due("credits", x.tenant(tenant, 0), 100);
        }
        check.refused("tenant(4, 0)", x, INDEX, () -> x.tenant(4, 0));
        check.refused("tenant(-1, 0)", x, INDEX, () -> x.tenant(-1, 0));
    }

    /** "The interval is from 5 to 100 ticks, 10 at first." */
    private static void leastAndGreatestInterval() {
        int[] intervals = {5, 10, 100};
        for (int interval : intervals) {
            BridgeAuction x = new BridgeAuction();
            x.setTimes(3, interval, 5);
            x.tick(interval - 1);
            check.due("auctions before " + interval, x.count(0), 0);
            check.due("credits before " + interval, x.tenant(0, 0), 100);
            x.tick(1);
            check.due("auctions at " + interval, x.count(0), 1);
            check.due("credits at " + interval, x.tenant(0, 0), 110);
            x.tick(interval - 1);
            check.due("auctions before the second one", x.count(0), 1);
            x.tick(1);
            check.due("auctions at the second one", x.count(0), 2);
        }
    }

    private static void noAuctionBeforeTheFirstTick() {
        BridgeAuction x = sale(50);
        check.due("auctions", x.count(0), 0);
        sold(x, 0, NONE, 0);
        check.due("fail", x.fail(0), 0);
    }

    /** "In a tick whose time is a multiple of the interval" */
    private static void multiplesOfANewInterval() {
        BridgeAuction x = new BridgeAuction();
        x.tick(6);
        x.setTimes(3, 6, 5);
        check.due("the time is a multiple, but no tick", x.count(0), 0);
        x.setTimes(3, 7, 5);
        x.tick(1);
        check.due("7", x.count(0), 1);
        x.setTimes(3, 8, 5);
        x.tick(1);
        check.due("8", x.count(0), 2);
        x.setTimes(3, 100, 5);
        x.tick(91);
        check.due("99", x.count(0), 2);
        x.tick(1);
        check.due("100", x.count(0), 3);
    }

    /** "the credits of each tenant become floor(9 * credits / 10) + 20" */
    private static void decayIsRoundedDown() {
        int[] credits = {0, 1, 9, 10, 11, 19, 20};
        int[] later = {20, 20, 28, 29, 29, 37, 38};
        for (int i = 0; i < credits.length; i++) {
            BridgeAuction x = sale(110 - credits[i]);
            x.tick(10);
            check.due("credits left", x.tenant(0, 0), credits[i]);
            x.bid(0, 0, 0);
            x.tick(10);
            check.due("credits then", x.tenant(0, 0), later[i]);
        }
    }

    private static void decayOfAMillion() {
        BridgeAuction x = Recipe.full();
        x.bid(3, 15, 0);
        x.tick(8);
        check.due("floor(9 * 1000000 / 10) + 20", x.tenant(3, 0), 900020);
    }

    /** From below at 191, of which 171.9 is rounded down; from above at 200, which is 180 + 20. */
    private static void decayComesToRest() {
        BridgeAuction x = new BridgeAuction();
        x.setTimes(3, 5, 5);
        x.grant(1, 10000);
        for (int i = 0; i < 5; i++) {
            x.tick(200);
        }
        check.due("from below", x.tenant(0, 0), 191);
        check.due("from above", x.tenant(1, 0), 200);
        x.tick(5);
        check.due("from below, then", x.tenant(0, 0), 191);
        check.due("from above, then", x.tenant(1, 0), 200);
    }

    /** "the bid of a tenant counts if it is greater than 0" */
    private static void bidsOfZeroDoNotCount() {
        BridgeAuction x = new BridgeAuction();
        x.addLink(0, 1, 10);
        x.addLink(0, 1, 10);
        x.bid(0, 0, 0);
        x.bid(3, 1, 1);
        x.bid(2, 1, 0);
        x.tick(10);
        sold(x, 0, NONE, 0);
        sold(x, 1, 3, 1);
    }

    /** "and not greater than the credits that the tenant has at this moment" */
    private static void bidsUpToTheCreditsCount() {
        BridgeAuction x = new BridgeAuction();
        x.addLink(0, 1, 10);
        x.bid(2, 0, 110);
        x.bid(1, 0, 111);
        x.tick(10);
        sold(x, 0, 2, 1);
        check.due("credits of the winner", x.tenant(2, 0), 109);
        check.due("credits of the other", x.tenant(1, 0), 110);
    }

    private static void creditsAfterTheDecay() {
        BridgeAuction more = new BridgeAuction();
        more.addLink(0, 1, 10);
        more.bid(0, 0, 101);
        more.tick(10);
        sold(more, 0, 0, 1);
        BridgeAuction fewer = new BridgeAuction();
        fewer.addLink(0, 1, 10);
        fewer.grant(0, 900);
        fewer.bid(0, 0, 921);
        fewer.tick(10);
        // 1000 have become 920.
        sold(fewer, 0, NONE, 0);
    }

    private static void creditsAfterEarlierLinks() {
        BridgeAuction x = new BridgeAuction();
        for (int link = 0; link < 4; link++) {
            x.addLink(0, 1, 10);
        }
        x.bid(0, 0, 110);
        x.bid(1, 0, 30);
        x.bid(0, 1, 81);
        x.bid(0, 2, 80);
        x.bid(2, 2, 80);
        x.bid(0, 3, 1);
        x.bid(1, 3, 2);
        x.tick(10);
        sold(x, 0, 0, 30);
        sold(x, 1, NONE, 0);
        sold(x, 2, 0, 80);
        check.due("nothing is left", x.tenant(0, 0), 0);
        sold(x, 3, 1, 1);
    }

    /** "the one with the lowest number among equal ones" */
    private static void lowestTenantAmongEqualBids() {
        for (int lowest = 0; lowest < 4; lowest++) {
            BridgeAuction x = new BridgeAuction();
            x.addLink(0, 1, 10);
            for (int tenant = 3; tenant >= lowest; tenant--) {
                x.bid(tenant, 0, 7);
            }
            x.tick(10);
            sold(x, 0, lowest, lowest == 3 ? 1 : 7);
        }
    }

    /** "(a bid equal to that of the winner counts for it), or 1 if there is no second one" */
    private static void secondBids() {
        int[][] bids = {{9, 5, 7, 3}, {3, 5, 7, 9}, {5, 9, 9, 5}, {1, 0, 0, 0}, {0, 1, 0, 1}, {9, 0, 0, 2}};
        int[] winner = {0, 3, 1, 0, 1, 0};
        int[] price = {7, 7, 9, 1, 1, 2};
        for (int i = 0; i < bids.length; i++) {
            BridgeAuction x = new BridgeAuction();
            x.addLink(0, 1, 10);
            for (int tenant = 0; tenant < 4; tenant++) {
                x.bid(tenant, 0, bids[i][tenant]);
            }
            x.tick(10);
            sold(x, 0, winner[i], price[i]);
            check.due("paid", x.tenant(winner[i], 2), price[i]);
            check.due("credits", x.tenant(winner[i], 0), 110 - price[i]);
        }
    }

    private static void secondBidsThatDoNotCount() {
        BridgeAuction x = new BridgeAuction();
        x.addLink(0, 1, 10);
        x.bid(0, 0, 111);
        x.bid(1, 0, 60);
        x.bid(2, 0, 200);
        x.bid(3, 0, 40);
        x.tick(10);
        sold(x, 0, 1, 40);
    }

    /** "none if no bid counts"; "or 0 if there is no winner" */
    private static void noBidThatCounts() {
        BridgeAuction x = sale(50);
        x.tick(10);
        sold(x, 0, 0, 50);
        x.bid(0, 0, 0);
        x.bid(1, 0, 0);
        x.tick(9);
        sold(x, 0, 0, 50);
        x.tick(1);
        sold(x, 0, NONE, 0);
        check.due("links won", x.tenant(0, 1), 0);
        check.due("nothing more is paid", x.tenant(0, 2), 50);
        x.bid(0, 0, 1000);
        x.tick(10);
        sold(x, 0, NONE, 0);
        check.due("fail", x.fail(0), 0);
    }

    private static void greatestBids() {
        BridgeAuction x = new BridgeAuction();
        x.addLink(0, 1, 100);
        x.grant(2, 1000);
        x.grant(3, 1000);
        x.bid(2, 0, 1000);
        x.bid(3, 0, 1000);
        x.tick(10);
        sold(x, 0, 2, 1000);
        check.due("credits", x.tenant(2, 0), 10);
        check.due("the greatest cost", x.link(0, 3), 1100);
        check.due("in the vector", x.bridge(1, 2), 1100);
    }

    private static void oneTenantWinsSixteenLinks() {
        BridgeAuction x = new BridgeAuction();
        for (int link = 0; link < 16; link++) {
            x.addLink(0, 1, 1);
            x.bid(3, link, 2);
        }
        x.tick(10);
        check.due("links won", x.tenant(3, 1), 16);
        check.due("paid", x.tenant(3, 2), 16);
        check.due("links won by another", x.tenant(0, 1), 0);
        x.fail(15);
        check.due("links won after a failure", x.tenant(3, 1), 15);
    }

    /** "if it is down, it has no winner, and the price 0" */
    private static void noWinnerOfALinkThatIsDown() {
        BridgeAuction x = sale(50);
        x.fail(0);
        x.tick(10);
        sold(x, 0, NONE, 0);
        check.due("nothing is paid", x.tenant(0, 2), 0);
        x.fix(0);
        x.tick(9);
        sold(x, 0, NONE, 0);
        x.tick(1);
        sold(x, 0, 0, 50);
    }

    /** "If it differs from the cost of the link by more than the hysteresis (0 to 100, 5 at first)" */
    private static void upByTheHysteresisOrMore() {
        int[] hysteresis = {0, 1, 5, 100};
        for (int most : hysteresis) {
            for (int price = Math.max(1, most); price <= most + 1; price++) {
                BridgeAuction x = sale(price);
                x.setTimes(3, 10, most);
                x.tick(10);
                boolean changes = price > most;
                check.due("cost by " + price + " of " + most, x.link(0, 3), changes ? 10 + price : 10);
                check.due("in a row", x.link(0, 8), changes ? 0 : 1);
            }
        }
        BridgeAuction x = new BridgeAuction();
        x.setTimes(3, 10, 0);
        x.addLink(0, 1, 10);
        x.tick(10);
        check.due("no difference", x.link(0, 3), 10);
        check.due("none in a row", x.link(0, 8), 0);
    }

    private static void downByTheHysteresisOrMore() {
        int[] hysteresis = {0, 1, 5, 100};
        for (int most : hysteresis) {
            for (int price = Math.max(1, most); price <= most + 1; price++) {
                BridgeAuction x = sale(price);
                x.setTimes(3, 10, 0);
                x.tick(10);
                check.due("cost at first", x.link(0, 3), 10 + price);
                x.bid(0, 0, 0);
                x.bid(1, 0, 0);
                x.setTimes(3, 10, most);
                x.tick(10);
                boolean changes = price > most;
                check.due("cost down by " + price + " of " + most, x.link(0, 3), changes ? 10 : 10 + price);
                check.due("in a row", x.link(0, 8), changes ? 0 : 1);
            }
        }
    }

    /** "or if it has differed from it (by 1 or more) in three auctions in a row, this one included" */
    private static void theThirdAuctionInARow() {
        BridgeAuction x = sale(1);
        int[] cost = {10, 10, 11, 11, 11};
        int[] row = {1, 2, 0, 0, 0};
        for (int i = 0; i < cost.length; i++) {
            x.tick(10);
            check.due("cost in auction " + (i + 1), x.link(0, 3), cost[i]);
            check.due("base cost in auction " + (i + 1), x.link(0, 2), 10);
            check.due("in a row in auction " + (i + 1), x.link(0, 8), row[i]);
        }
    }

    private static void aRowThatIsBroken() {
        BridgeAuction x = sale(1);
        x.tick(20);
        check.due("two in a row", x.link(0, 8), 2);
        x.bid(0, 0, 0);
        x.bid(1, 0, 0);
        x.tick(10);
        check.due("the wanted cost is the cost", x.link(0, 8), 0);
        x.bid(0, 0, 110);
        x.tick(20);
        check.due("two in a row again", x.link(0, 8), 2);
        check.due("the cost stays", x.link(0, 3), 10);
        // A change by more than the hysteresis ends the row, too.
        x.bid(1, 0, 20);
        x.tick(10);
        check.due("changed", x.link(0, 3), 30);
        check.due("0 after a change", x.link(0, 8), 0);
        x.bid(1, 0, 19);
        x.tick(20);
        check.due("it begins anew", x.link(0, 8), 2);
        check.due("and the cost stays", x.link(0, 3), 30);
    }

    private static void aRowWithoutAChangeOfTheWantedCost() {
        BridgeAuction x = sale(5);
        x.tick(10);
        x.fail(0);
        x.tick(10);
        check.due("down: the wanted cost is the base cost", x.link(0, 8), 0);
        x.fix(0);
        x.tick(20);
        check.due("two in a row", x.link(0, 8), 2);
        x.fail(0);
        check.due("a failure leaves the row", x.link(0, 8), 2);
        x.fix(0);
        x.tick(10);
        check.due("the third", x.link(0, 3), 15);
    }

    /** "floor(price * r / interval), where r is the number of ticks from now until the next auction" */
    private static void refundsOfEveryTick() {
        int[] back = {37, 33, 29, 25, 22, 18, 14, 11, 7, 3};
        for (int since = 0; since < 10; since++) {
            BridgeAuction x = sale(37);
            x.tick(10 + since);
            check.due("fail after " + since, x.fail(0), back[since]);
            check.due("credits", x.tenant(0, 0), 110 - 37 + back[since]);
            check.due("got back", x.tenant(0, 3), back[since]);
            check.due("paid", x.tenant(0, 2), 37);
        }
    }

    /** "(if the time is a multiple of the interval: interval)" */
    private static void refundsOfTheLeastAndTheGreatestInterval() {
        int[] interval = {5, 5, 5, 100, 100, 100, 100};
        int[] since = {0, 1, 4, 0, 1, 67, 99};
        int[] back = {31, 24, 6, 31, 30, 10, 0};
        for (int i = 0; i < interval.length; i++) {
            BridgeAuction x = sale(31);
            x.setTimes(3, interval[i], 5);
            x.tick(interval[i]);
            if (since[i] > 0) {
                x.tick(since[i]);
            }
            check.due("fail " + since[i] + " after " + interval[i], x.fail(0), back[i]);
        }
    }

    private static void refundWithANewInterval() {
        BridgeAuction x = sale(31);
        x.tick(12);
        x.setTimes(3, 6, 5);
        check.due("12 is a multiple of 6", x.fail(0), 31);
        BridgeAuction y = sale(31);
        y.tick(12);
        y.setTimes(3, 13, 5);
        check.due("floor(31 * 1 / 13)", y.fail(0), 2);
        BridgeAuction z = sale(31);
        z.tick(12);
        z.setTimes(3, 100, 0);
        check.due("floor(31 * 88 / 100)", z.fail(0), 27);
    }

    /** "Returns what its winner gets back (0 without a winner)." */
    private static void noRefundWithoutAWinner() {
        BridgeAuction x = new BridgeAuction();
        x.addLink(0, 1, 10);
        x.bid(0, 0, 111);
        x.tick(10);
        check.due("fail", x.fail(0), 0);
        for (int tenant = 0; tenant < 4; tenant++) {
            check.due("credits", x.tenant(tenant, 0), 110);
            check.due("got back", x.tenant(tenant, 3), 0);
        }
    }

    /** "it has no winner and the price 0 then" */
    private static void noWinnerAndNoPriceAfterAFailure() {
        BridgeAuction x = sale(31);
        x.tick(10);
        sold(x, 0, 0, 31);
        check.due("cost", x.link(0, 3), 41);
        x.fail(0);
        sold(x, 0, NONE, 0);
        check.due("links won", x.tenant(0, 1), 0);
        check.due("the cost stays until the auction", x.link(0, 3), 41);
        x.fix(0);
        sold(x, 0, NONE, 0);
        check.due("fail again", x.fail(0), 0);
        check.due("got back once", x.tenant(0, 3), 31);
    }

    /** "what: 0 lower bridge, .. 8 in how many auctions in a row .." */
    private static void valuesOfALink() {
        BridgeAuction x = new BridgeAuction();
        x.addLink(3, 1, 10);
        x.bid(2, 0, 60);
        x.bid(3, 0, 4);
        x.tick(20);
        int[] due = {1, 3, 10, 10, 1, 2, 4, 1, 2};
        for (int what = 0; what < 9; what++) {
            check.due("link(0, " + what + ")", x.link(0, what), due[what]);
        }
        check.refused("link(0, 9)", x, ARGUMENT, () -> x.link(0, 9));
        check.refused("link(0, -1)", x, ARGUMENT, () -> x.link(0, -1));
        check.refused("link(1, 9)", x, INDEX, () -> x.link(1, 9));
        check.refused("link(-1, -1)", x, INDEX, () -> x.link(-1, -1));
    }

    /** "what: 0 credits, 1 links won now, 2 all that it has paid, 3 all that it got back" */
    private static void valuesOfATenant() {
        BridgeAuction x = new BridgeAuction();
        x.addLink(0, 1, 10);
        x.addLink(0, 1, 10);
        x.bid(3, 0, 40);
        x.bid(1, 0, 20);
        x.bid(3, 1, 40);
        x.tick(15);
        check.due("fail", x.fail(0), 10);
        // 110 - 20 - 1 + 10
        int[] due = {99, 1, 21, 10};
        for (int what = 0; what < 4; what++) {
            check.due("tenant(3, " + what + ")", x.tenant(3, what), due[what]);
        }
        check.refused("tenant(3, 4)", x, ARGUMENT, () -> x.tenant(3, 4));
        check.refused("tenant(3, -1)", x, ARGUMENT, () -> x.tenant(3, -1));
        check.refused("tenant(4, 4)", x, INDEX, () -> x.tenant(4, 4));
        check.refused("tenant(-1, -1)", x, INDEX, () -> x.tenant(-1, -1));
    }

    private static void countsAtFirst() {
        BridgeAuction x = new BridgeAuction();
        for (int what = 0; what < 7; what++) {
            check.due("count(" + what + ")", x.count(what), 0);
        }
        check.refused("count(7)", x, ARGUMENT, () -> x.count(7));
        check.refused("count(-1)", x, ARGUMENT, () -> x.count(-1));
    }
}
