/** Promise 6: bid. */
public final class BidTest {
    private static final int MILLION = Edges.MILLION;

    public static void main(String[] args) {
        isZeroAtFirst();
        isOfEachMemberForEachInstrument();
        isToldAnew();
        takesTheEdges();
        isFreeToThoseThatAreNotLive();
        refusesOtherMembers();
        refusesOtherInstruments();
        refusesOtherBids();
        Check.end();
    }

    private static void isZeroAtFirst() {
        House house = Houses.withOneInDefault();
        house.bid(1, 0, 1);
        Check.answers("closeOut(0)", 0, house.closeOut(0));
        Check.answers("2 asked less than 1", 0, house.position(2, 0));
        Check.answers("and got nothing for it", 0, house.told(2, 1));
        Check.answers("1 asked 0 for the other", 4, house.position(1, 1));
        Check.answers("and got nothing for it", 0, house.told(1, 1));
    }

    private static void isOfEachMemberForEachInstrument() {
        House house = Houses.full();
        for (int i = 0; i <= 5; i++) {
            house.trade(6, 7, i, 2, 101);
        }
        for (int m = 0; m <= 7; m++) {
            for (int i = 0; i <= 5; i++) {
                house.bid(m, i, m == 5 - i ? 10 + i : 100 + m);
            }
        }
        Check.answers("6 is in default", 1, house.declare());
        Check.answers("closeOut(6)", 0, house.closeOut(6));
        for (int i = 0; i <= 5; i++) {
            Check.answers("5 - i asked least for i", 2, house.position(5 - i, i));
            Check.answers("7 asked more", -2, house.position(7, i));
        }
        // 12 by the trades, and 10 .. 15 for two units each
        Check.bore("12 + 150 were missing", house, 70, 0, 92, 0, 0);
    }

    private static void isToldAnew() {
        House house = Houses.withOneInDefault();
        house.bid(1, 0, 5);
        house.bid(2, 0, 6);
        house.bid(1, 0, 7);
        house.closeOut(0);
        Check.answers("2 takes for 6", 24, house.told(2, 1));
        Check.answers("1 asked more in the end", 0, house.position(1, 0));
    }

    private static void takesTheEdges() {
        for (int bid : new int[] {0, 1, MILLION - 1, MILLION}) {
            House house = Houses.withOneInDefault();
            house.bid(1, 0, bid);
            house.bid(2, 0, bid);
            house.bid(1, 1, 0);
            long missing = Math.max(0, 4L * bid - 50);
            // 10 and then 20 and 30 are in the fund, and the one that takes can be called for the 20 that it gave
            Check.answers("closeOut at " + bid, Math.max(0, missing - 80), house.closeOut(0));
            Check.answers("the taker's cash at " + bid, 4L * bid - Math.min(20, Math.max(0, missing - 60)),
                    house.told(1, 1));
        }
    }

    private static void isFreeToThoseThatAreNotLive() {
        House house = Houses.withOneInDefault();
        house.bid(0, 0, 1);
        house.bid(0, 1, MILLION);
        house.closeOut(0);
        house.bid(0, 0, 1);
        Check.told("bids of one that is not live", house, 0, 2, 50, 10);
    }

    private static void refusesOtherMembers() {
        for (int wrong : Edges.noMember(3)) {
            Twins.argument(Houses::withOneInDefault, "of " + wrong, house -> house.bid(wrong, 0, 1));
        }
        for (int wrong : Edges.noMember(8)) {
            Twins.argument(Houses::full, "of " + wrong, house -> house.bid(wrong, 5, MILLION));
        }
    }

    private static void refusesOtherInstruments() {
        for (int wrong : Edges.noInstrument(2)) {
            Twins.argument(Houses::withOneInDefault, "for " + wrong, house -> house.bid(1, wrong, 1));
        }
        for (int wrong : Edges.noInstrument(6)) {
            Twins.argument(Houses::full, "for " + wrong, house -> house.bid(7, wrong, MILLION));
        }
    }

    private static House withBids() {
        House house = Houses.withOneInDefault();
        house.bid(1, 0, 1);
        house.bid(2, 0, 2);
        return house;
    }

    private static void refusesOtherBids() {
        for (int wrong : Edges.outside(0, MILLION)) {
            Twins.argument(BidTest::withBids, "the least one becoming " + wrong, house -> house.bid(1, 0, wrong));
            Twins.argument(BidTest::withBids, "another becoming " + wrong, house -> house.bid(2, 0, wrong));
        }
    }
}
