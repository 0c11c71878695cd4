/** Promise 9: trade. */
public final class TradeTest {
    public static void main(String[] args) {
        movesUnitsAndCash();
        countsTrades();
        keepsPositionsWithinAMillion();
        refusesWrongOnes();
        refusesThoseThatAreNotLive();
        Check.end();
    }

    private static MarginHouse threeMembers() {
        MarginHouse house = Houses.withMembers(1, 2, 3);
        house.instrument(100, 0, 0);
        house.instrument(500, 0, 0);
        return house;
    }

    private static void movesUnitsAndCash() {
        MarginHouse house = threeMembers();
        house.trade(0, 1, 0, 7, 90);
        Check.answers("the buyer's units", 7, house.position(0, 0));
        Check.answers("the seller's units", -7, house.position(1, 0));
        Check.answers("the buyer's cash", 70, house.told(0, 1));
        Check.answers("the seller's cash", -70, house.told(1, 1));
        Check.answers("units of the other instrument", 0, house.position(0, 1));
        house.trade(1, 0, 0, 10, 101);
        Check.answers("the seller's units", -3, house.position(0, 0));
        Check.answers("the buyer's units", 3, house.position(1, 0));
        Check.answers("the seller's cash", 80, house.told(0, 1));
        Check.answers("the buyer's cash", -80, house.told(1, 1));
        house.trade(2, 1, 1, 100000, 1000000);
        Check.answers("the dearest trade", -100000L * 999500, house.told(2, 1));
        house.trade(2, 1, 1, 1, 0);
        Check.answers("the cheapest trade", -100000L * 999500 + 500, house.told(2, 1));
        Check.answers("all cash", 0, house.all(2));
    }

    private static void countsTrades() {
        MarginHouse house = threeMembers();
        Check.answers("first", 1, house.trade(0, 1, 0, 1, 100));
        Check.answers("second", 2, house.trade(2, 1, 1, 1, 100));
        Check.argument("a refused one", () -> house.trade(0, 0, 0, 1, 100));
        Check.answers("third", 3, house.trade(1, 0, 0, 1, 100));
        Check.answers("all(4)", 3, house.all(4));
    }

    private static void keepsPositionsWithinAMillion() {
        MarginHouse house = threeMembers();
        Houses.tradeMany(house, 0, 1, 0, 999_999, 100);
        Check.noneLeaves(house, "the buyer's position beyond", () -> house.trade(0, 2, 0, 2, 100));
        Check.noneLeaves(house, "the seller's position beyond", () -> house.trade(2, 1, 0, 2, 100));
        Check.answers("to a million", 11, house.trade(0, 2, 0, 1, 100));
        Check.answers("to a million sold", 12, house.trade(2, 1, 0, 1, 100));
        Check.noneLeaves(house, "beyond", () -> house.trade(0, 2, 0, 1, 100));
        Check.noneLeaves(house, "beyond, sold", () -> house.trade(2, 1, 0, 1, 100));
        Check.answers("in another instrument", 13, house.trade(0, 1, 1, 1, 100));
        Check.answers("back", 14, house.trade(1, 0, 0, 100000, 100));
    }

    private static void refusesWrongOnes() {
        MarginHouse house = threeMembers();
        for (int wrong : new int[] {-1, 3, 8, Integer.MIN_VALUE, Integer.MAX_VALUE}) {
            Check.argumentLeaves(house, "buyer " + wrong, () -> house.trade(wrong, 1, 0, 1, 1));
            Check.argumentLeaves(house, "seller " + wrong, () -> house.trade(1, wrong, 0, 1, 1));
        }
        Check.argumentLeaves(house, "with itself", () -> house.trade(1, 1, 0, 1, 1));
        for (int wrong : new int[] {-1, 2, 6, Integer.MIN_VALUE, Integer.MAX_VALUE}) {
            Check.argumentLeaves(house, "instrument " + wrong, () -> house.trade(0, 1, wrong, 1, 1));
        }
        for (int wrong : new int[] {-1, 0, 100001, Integer.MIN_VALUE, Integer.MAX_VALUE}) {
            Check.argumentLeaves(house, "qty " + wrong, () -> house.trade(0, 1, 0, wrong, 1));
        }
        for (int wrong : new int[] {-1, 1000001, Integer.MIN_VALUE, Integer.MAX_VALUE}) {
            Check.argumentLeaves(house, "price " + wrong, () -> house.trade(0, 1, 0, 1, wrong));
        }
    }

    private static void refusesThoseThatAreNotLive() {
        MarginHouse house = threeMembers();
        Houses.tradeMany(house, 0, 1, 0, 1_000_000, 100);
        house.trade(2, 1, 1, 1, 501);
        house.trade(0, 2, 1, 1, 499);
        house.deposit(1, 5);
        house.trade(2, 1, 1, 1, 502);
        house.declare();
        Check.answers("2 is in default", 1, house.told(2, 0));
        Check.stateLeaves(house, "a buyer in default", () -> house.trade(2, 0, 0, 1, 100));
        Check.stateLeaves(house, "a seller in default", () -> house.trade(1, 2, 0, 1, 100));
        Check.stateLeaves(house, "ahead of a position beyond", () -> house.trade(0, 2, 0, 1, 100));
        Check.argumentLeaves(house, "behind a wrong qty", () -> house.trade(0, 2, 0, 0, 100));
        Check.argumentLeaves(house, "behind being one and the same", () -> house.trade(2, 2, 0, 1, 100));
        house.closeOut(2);
        Check.stateLeaves(house, "a buyer that is out", () -> house.trade(2, 0, 0, 1, 100));
        Check.stateLeaves(house, "a seller that is out", () -> house.trade(1, 2, 0, 1, 100));
    }
}
