/** Promise 14: closeOut, and what Terms say of closing out. */
public final class CloseOutTest {
    public static void main(String[] args) {
        keepsWhatIsLeft();
        goesLayerByLayer();
        asksTheLeastBidderOfTheLive();
        paysForUnitsWithoutSign();
        paysGreatBids();
        givesEachInstrumentToItsOwnTaker();
        callsCashAfterTheBids();
        callsNoCashBelowZero();
        needsALiveTaker();
        needsNoTakerWithoutPositions();
        keepsPositionsWithinAMillion();
        addsUpLosses();
        refusesWrongOnes();
        Check.end();
    }

    private static void keepsWhatIsLeft() {
        MarginHouse house = Houses.withMembers(10, 20, 30);
        house.instrument(100, 0, 0);
        house.move(0, 0, -50);
        house.capital(5);
        house.deposit(0, 49);
        house.trade(0, 1, 0, 1, 100);
        house.declare();
        house.bid(1, 0, 49);
        house.bid(2, 0, 50);
        Check.answers("its cash is used up and not below 0", 0, house.closeOut(0));
        Check.answers("its cash", 0, house.told(0, 1));
        Check.answers("its contribution", 10, house.told(0, 2));
        Check.answers("it is out", 2, house.told(0, 0));
        Check.answers("its position", 0, house.position(0, 0));
        Check.answers("the taker's position", 0, house.position(1, 0));
        Check.answers("the taker's cash", 49, house.told(1, 1));
        Check.answers("the capital", 5, house.all(0));
        Check.answers("the fund", 60, house.all(3));
        Check.answers("losses", 0, house.all(1));
        borne(house, 0, 0, 0, 0, 0);
    }

    /** Member 0 misses so much; the house has 15, the others 30, 20 and 0 in the fund and 25, 50 and much cash. */
    private static MarginHouse houseMissing(int missing) {
        MarginHouse house = Houses.withMembers(10, 30, 20, 0);
        house.instrument(0, 0, 0);
        house.capital(15);
        house.deposit(1, 25);
        house.deposit(2, 50);
        house.trade(0, 3, 0, 1, missing);
        house.declare();
        return house;
    }

    private static void layers(int missing, long[] bore, long[] contributions, long[] cash, long capital) {
        MarginHouse house = houseMissing(missing);
        String name = "missing " + missing + ": ";
        Check.answers(name + "closeOut(0)", bore[4], house.closeOut(0));
        borne(house, bore);
        for (int m = 0; m < 3; m++) {
            Check.answers(name + "contribution of " + m, contributions[m], house.told(m, 2));
            Check.answers(name + "cash of " + m, cash[m], house.told(m, 1));
        }
        Check.answers(name + "cash of 3", missing, house.told(3, 1));
        Check.answers(name + "capital", capital, house.all(0));
        Check.answers(name + "losses", bore[4], house.all(1));
    }

    private static void goesLayerByLayer() {
        layers(1, row(1, 0, 0, 0, 0), row(9, 30, 20), row(0, 25, 50), 15);
        layers(10, row(10, 0, 0, 0, 0), row(0, 30, 20), row(0, 25, 50), 15);
        layers(11, row(10, 1, 0, 0, 0), row(0, 30, 20), row(0, 25, 50), 14);
        layers(25, row(10, 15, 0, 0, 0), row(0, 30, 20), row(0, 25, 50), 0);
        layers(26, row(10, 15, 1, 0, 0), row(0, 29, 20), row(0, 25, 50), 0);
        layers(35, row(10, 15, 10, 0, 0), row(0, 24, 16), row(0, 25, 50), 0);
        layers(75, row(10, 15, 50, 0, 0), row(0, 0, 0), row(0, 25, 50), 0);
        layers(76, row(10, 15, 50, 1, 0), row(0, 0, 0), row(0, 24, 50), 0);
        layers(84, row(10, 15, 50, 9, 0), row(0, 0, 0), row(0, 20, 46), 0);
        layers(120, row(10, 15, 50, 45, 0), row(0, 0, 0), row(0, 0, 30), 0);
        layers(121, row(10, 15, 50, 45, 1), row(0, 0, 0), row(0, 0, 30), 0);
        layers(1000000, row(10, 15, 50, 45, 999880), row(0, 0, 0), row(0, 0, 30), 0);
    }

    private static void asksTheLeastBidderOfTheLive() {
        MarginHouse house = Houses.withMembers(0, 0, 0, 0, 0);
        house.instrument(100, 0, 0);
        house.move(0, 0, -50);
        house.trade(0, 4, 0, 2, 100);
        house.trade(1, 4, 0, 2, 100);
        Check.answers("0 and 1 are in default", 2, house.declare());
        house.bid(0, 0, 0);
        house.bid(1, 0, 0);
        house.bid(2, 0, 7);
        house.bid(3, 0, 7);
        house.bid(4, 0, 8);
        house.deposit(2, 1);
        Check.answers("closeOut(1)", 14, house.closeOut(1));
        Check.answers("the least number of the least bids", 2, house.position(2, 0));
        Check.answers("its cash", 15, house.told(2, 1));
        house.bid(1, 0, 0);
        house.bid(2, 0, 8);
        house.bid(4, 0, 7);
        Check.answers("closeOut(0)", 14, house.closeOut(0));
        Check.answers("not one that is out", 2, house.position(3, 0));
    }

    private static void paysForUnitsWithoutSign() {
        MarginHouse house = Houses.withMembers(0, 0);
        house.instrument(100, 0, 0);
        house.move(0, 0, 50);
        house.deposit(1, 60);
        house.trade(0, 1, 0, 3, 100);
        house.declare();
        house.bid(0, 0, 11);
        Check.answers("closeOut(1)", 0, house.closeOut(1));
        Check.answers("the taker's cash", 33, house.told(0, 1));
        Check.answers("the defaulter's cash", 27, house.told(1, 1));
        Check.answers("the taker's units", 0, house.position(0, 0));
        Check.answers("units open", 0, house.all(5));
    }

    private static void paysGreatBids() {
        MarginHouse house = Houses.withMembers(0, 0);
        house.instrument(100, 1000000, 0);
        Houses.tradeMany(house, 1, 0, 0, 1_000_000, 100);
        house.move(0, 0, -1);
        house.declare();
        house.bid(0, 0, 1000000);
        Check.answers("closeOut(1)", Houses.MOST_PAID, house.closeOut(1));
        Check.answers("the taker's cash", Houses.MOST_PAID, house.told(0, 1));
    }

    private static void givesEachInstrumentToItsOwnTaker() {
        MarginHouse house = Houses.withMembers(0, 0, 0);
        for (int i = 0; i < 6; i++) {
            house.instrument(100, 0, 0);
            house.trade(i % 2 == 0 ? 0 : 2, i % 2 == 0 ? 2 : 0, i, i + 1, 100);
            house.bid(1, i, i < 3 ? 1 : 2);
            house.bid(2, i, i < 3 ? 2 : 1);
        }
        house.trade(1, 2, 5, 50, 100);
        house.move(0, 4, -1);
        Check.answers("0 is in default", 1, house.declare());
        Check.answers("closeOut(0)", 21, house.closeOut(0));
        for (int i = 0; i < 6; i++) {
            int units = i % 2 == 0 ? i + 1 : -i - 1;
            Check.answers("position of 0 in " + i, 0, house.position(0, i));
            Check.answers("position of 1 in " + i, (i < 3 ? units : 0) + (i == 5 ? 50 : 0), house.position(1, i));
            Check.answers("position of 2 in " + i, (i < 3 ? -units : 0) - (i == 5 ? 50 : 0), house.position(2, i));
        }
        Check.answers("1 asked 1 for six units", 6, house.told(1, 1));
        Check.answers("2 asked 1 for fifteen units", 15, house.told(2, 1));
    }

    private static void callsCashAfterTheBids() {
        MarginHouse house = Houses.withMembers(0, 100);
        house.instrument(100, 0, 0);
        house.move(0, 0, -1);
        house.trade(0, 1, 0, 5, 100);
        house.declare();
        house.bid(1, 0, 30);
        Check.answers("closeOut(0)", 0, house.closeOut(0));
        borne(house, 0, 0, 100, 50, 0);
        Check.answers("cash came by the bid and went by the call", 100, house.told(1, 1));
        Check.answers("contribution", 0, house.told(1, 2));
    }

    private static void callsNoCashBelowZero() {
        MarginHouse house = Houses.withMembers(0, 10, 10, 0);
        house.instrument(100, 0, 0);
        house.instrument(100, 0, 0);
        house.deposit(2, 4);
        house.trade(0, 3, 0, 1, 150);
        house.declare();
        house.trade(1, 3, 1, 1, 103);
        house.bid(1, 0, 1);
        house.bid(2, 0, 1);
        house.bid(3, 0, 0);
        Check.answers("closeOut(0)", 50 - 20 - 4, house.closeOut(0));
        borne(house, 0, 0, 20, 4, 26);
        Check.answers("1 has what it had", -3, house.told(1, 1));
        Check.answers("1 is live", 0, house.told(1, 0));
        Check.answers("2 gave all it had", 0, house.told(2, 1));
    }

    /** Members 0 and 1 have one unit each way and no cash, member 2 has no units and lacks 10; all are in default. */
    private static MarginHouse houseWithoutLiveOnes() {
        MarginHouse house = Houses.withMembers(0, 0, 3);
        house.instrument(0, 0, 0);
        house.move(0, 0, -1);
        house.move(1, 0, 1);
        house.capital(2);
        house.trade(2, 0, 0, 1, 10);
        house.trade(0, 2, 0, 1, 0);
        house.withdraw(0, 10);
        house.trade(0, 1, 0, 1, 0);
        Check.answers("all are in default", 3, house.declare());
        return house;
    }

    private static void needsALiveTaker() {
        MarginHouse house = houseWithoutLiveOnes();
        Check.noneLeaves(house, "closeOut(0)", () -> house.closeOut(0));
        Check.noneLeaves(house, "closeOut(1)", () -> house.closeOut(1));
        Check.answers("a new member", 3, house.member(0));
        Check.answers("closeOut(0) then", 0, house.closeOut(0));
        Check.answers("it took the unit", 1, house.position(3, 0));
        Check.answers("closeOut(1) then", 0, house.closeOut(1));
        Check.answers("it took that unit too", 0, house.position(3, 0));
    }

    private static void needsNoTakerWithoutPositions() {
        MarginHouse house = houseWithoutLiveOnes();
        Check.answers("closeOut(2)", 5, house.closeOut(2));
        borne(house, 3, 2, 0, 0, 5);
        Check.answers("it is out", 2, house.told(2, 0));
        Check.answers("its cash", 0, house.told(2, 1));
        Check.answers("losses", 5, house.all(1));
        Check.noneLeaves(house, "closeOut(0): what the last one bore stays", () -> house.closeOut(0));
    }

    private static void keepsPositionsWithinAMillion() {
        MarginHouse house = Houses.withMembers(5, 5, 5, 5);
        house.instrument(100, 1000000, 0);
        house.instrument(100, 1000000, 0);
        Houses.tradeMany(house, 1, 3, 1, 999_999, 100);
        house.trade(0, 3, 0, 1, 100);
        house.trade(0, 2, 1, 2, 101);
        house.bid(2, 0, 1);
        house.bid(2, 1, 1);
        house.bid(3, 0, 1);
        house.bid(3, 1, 1);
        Check.answers("0 is in default", 1, house.declare());
        Check.noneLeaves(house, "the least bidder's position beyond", () -> house.closeOut(0));
        house.trade(2, 1, 1, 1, 100);
        Check.answers("to a million", 0, house.closeOut(0));
        Check.answers("position", 1000000, house.position(1, 1));
        soldPositionsToo();
    }

    /** Member 0 is in default with one unit sold, and member 1, that asks least, has sold so many. */
    private static MarginHouse houseWithSold(int units) {
        MarginHouse house = Houses.withMembers(5, 5, 5, 5);
        house.instrument(100, 1000000, 0);
        Houses.tradeMany(house, 2, 1, 0, units, 100);
        house.trade(3, 0, 0, 1, 99);
        house.bid(2, 0, 1);
        house.bid(3, 0, 1);
        Check.answers("0 is in default", 1, house.declare());
        return house;
    }

    private static void soldPositionsToo() {
        MarginHouse full = houseWithSold(1_000_000);
        Check.noneLeaves(full, "beyond a million sold", () -> full.closeOut(0));
        MarginHouse house = houseWithSold(999_999);
        Check.answers("to a million sold", 0, house.closeOut(0));
        Check.answers("position", -1000000, house.position(1, 0));
    }

    private static void addsUpLosses() {
        MarginHouse house = Houses.withMembers(0, 0, 0);
        house.instrument(0, 0, 0);
        house.trade(0, 2, 0, 1, 30);
        house.trade(1, 2, 0, 1, 12);
        house.declare();
        Check.answers("closeOut(0)", 30, house.closeOut(0));
        Check.answers("closeOut(1)", 12, house.closeOut(1));
        Check.answers("losses", 42, house.all(1));
        borne(house, 0, 0, 0, 0, 12);
    }

    private static void refusesWrongOnes() {
        MarginHouse house = houseMissing(50);
        for (int wrong : new int[] {-1, 4, 8, Integer.MIN_VALUE, Integer.MAX_VALUE}) {
            Check.argumentLeaves(house, "closeOut(" + wrong + ")", () -> house.closeOut(wrong));
        }
        Check.stateLeaves(house, "closeOut of a live one", () -> house.closeOut(1));
        house.closeOut(0);
        Check.stateLeaves(house, "closeOut of one that is out", () -> house.closeOut(0));
    }

    private static void borne(MarginHouse house, long... due) {
        for (int layer = 0; layer <= 4; layer++) {
            Check.answers("bore(" + layer + ")", due[layer], house.bore(layer));
        }
    }

    private static long[] row(long... values) {
        return values;
    }
}
