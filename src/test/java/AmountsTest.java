/**
 * Terms: no amount is ever beyond 10^15. No call moves one by much more than 10^12, so 512 calls cannot come there:
 * these runs are longer than the document promises anything for, and hold the program to its limit all the same.
 */
public final class AmountsTest {
    private static final long MOST_HELD = 1000 * Houses.MOST_PAID;

    public static void main(String[] args) {
        capitalStops();
        cashStops();
        cashStopsWhenClosingOut();
        Check.end();
    }

    private static void capitalStops() {
        MarginHouse house = new MarginHouse();
        for (int n = 1; n <= 1000; n++) {
            house.capital(Houses.MOST_PAID);
        }
        Check.answers("capital", MOST_HELD, house.all(0));
        Check.noneLeaves(house, "capital(1)", () -> house.capital(1));
        Check.answers("capital(0)", MOST_HELD, house.capital(0));
    }

    private static MarginHouse richHouse() {
        MarginHouse house = Houses.withMembers(0, 0, 0);
        house.instrument(10, 1000000, 0);
        for (int n = 1; n <= 1000; n++) {
            house.deposit(0, Houses.MOST_PAID);
        }
        return house;
    }

    private static void cashStops() {
        MarginHouse house = richHouse();
        Check.answers("cash", MOST_HELD, house.told(0, 1));
        Check.noneLeaves(house, "deposit", () -> house.deposit(0, 1));
        Check.noneLeaves(house, "a trade that gives the buyer cash", () -> house.trade(0, 1, 0, 1, 9));
        Check.noneLeaves(house, "a trade that gives the seller cash", () -> house.trade(1, 0, 0, 1, 11));
        Check.answers("a trade without cash", 1, house.trade(0, 1, 0, 1, 10));
        Check.noneLeaves(house, "mark", () -> house.mark(0, 11));
        house.withdraw(0, 1);
        Check.answers("mark to the limit", 1, house.mark(0, 11));
        Check.answers("cash", MOST_HELD, house.told(0, 1));
    }

    private static void cashStopsWhenClosingOut() {
        MarginHouse house = richHouse();
        house.trade(1, 2, 0, 1, 11);
        house.declare();
        house.bid(0, 0, 1);
        house.bid(2, 0, 2);
        Check.noneLeaves(house, "closeOut(1)", () -> house.closeOut(1));
        house.withdraw(0, 1);
        Check.answers("closeOut(1)", 2, house.closeOut(1));
        Check.answers("cash", MOST_HELD, house.told(0, 1));
    }
}
