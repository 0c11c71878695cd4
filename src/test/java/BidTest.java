/** Promise 6: bid. */
public final class BidTest {
    public static void main(String[] args) {
        decidesWhoTakesAndForWhat();
        takesTheEdges();
        isFreeToThoseThatAreNotLive();
        refusesWrongOnes();
        Check.end();
    }

    /** Member 0 is in default with 4 units of each of two instruments, bought from member 3; 1 and 2 have none. */
    private static MarginHouse houseWithDefaulter() {
        MarginHouse house = Houses.withMembers(0, 0, 0, 0);
        house.instrument(10, 1000, 0);
        house.instrument(10, 1000, 0);
        house.deposit(3, 1000);
        house.deposit(0, 30);
        house.trade(0, 3, 0, 4, 10);
        house.trade(0, 3, 1, 4, 10);
        house.move(0, 0, -8);
        house.declare();
        return house;
    }

    private static void decidesWhoTakesAndForWhat() {
        MarginHouse house = houseWithDefaulter();
        house.bid(1, 0, 3);
        house.bid(2, 0, 2);
        house.bid(3, 0, 4);
        house.bid(1, 1, 1);
        house.bid(2, 1, 6);
        house.bid(3, 1, 6);
        house.bid(3, 1, 5);
        Check.answers("closeOut(0)", 0, house.closeOut(0));
        Check.answers("2 asked least for the first", 4, house.position(2, 0));
        Check.answers("and got it for each unit", 8, house.told(2, 1));
        Check.answers("1 asked least for the second", 4, house.position(1, 1));
        Check.answers("and got that for each unit", 4, house.told(1, 1));
        Check.answers("from the defaulter", 18, house.told(0, 1));
    }

    private static void takesTheEdges() {
        MarginHouse house = houseWithDefaulter();
        for (int m = 1; m <= 3; m++) {
            house.bid(m, 0, 1000000);
        }
        Check.answers("closeOut(0)", 4000000 - 30, house.closeOut(0));
        Check.answers("the least number of equal bids", 4000000, house.told(1, 1));
    }

    private static void isFreeToThoseThatAreNotLive() {
        MarginHouse house = houseWithDefaulter();
        Check.nothing("a bid of one in default", () -> house.bid(0, 0, 1));
        house.closeOut(0);
        Check.nothing("a bid of one that is out", () -> house.bid(0, 0, 1));
    }

    private static void refusesWrongOnes() {
        MarginHouse house = houseWithDefaulter();
        for (int wrong : new int[] {-1, 4, 8, Integer.MIN_VALUE, Integer.MAX_VALUE}) {
            Check.argumentLeaves(house, "bid of member " + wrong, () -> house.bid(wrong, 0, 1));
        }
        for (int wrong : new int[] {-1, 2, 6, Integer.MIN_VALUE, Integer.MAX_VALUE}) {
            Check.argumentLeaves(house, "bid for instrument " + wrong, () -> house.bid(1, wrong, 1));
        }
        for (int wrong : new int[] {-1, 1000001, Integer.MIN_VALUE, Integer.MAX_VALUE}) {
            Check.argumentLeaves(house, "bid " + wrong, () -> house.bid(1, 0, wrong));
        }
        Check.answers("closeOut after refused bids", 0, house.closeOut(0));
        Check.answers("nothing was asked", 30, house.told(0, 1));
    }
}
