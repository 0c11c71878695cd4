/** Promise 11: margin. */
public final class MarginTest {
    public static void main(String[] args) {
        isTheWorstMove();
        addsExtraAboveTheLimit();
        isGreat();
        isToldOfThoseThatAreNotLive();
        refusesWrongOnes();
        Check.end();
    }

    private static void isTheWorstMove() {
        MarginHouse house = Houses.withMembers(0, 0, 0);
        house.instrument(100, 1000, 1);
        house.instrument(100, 1000, 1);
        house.trade(0, 1, 0, 10, 100);
        house.trade(2, 0, 1, 4, 100);
        house.move(0, 0, -3);
        house.move(0, 1, -6);
        Check.answers("gains of one instrument lessen losses of another", 6, house.margin(0));
        Check.answers("a move that only gains", 0, house.margin(1));
        Check.answers("a loss of what was bought", 24, house.margin(2));
        house.move(1, 0, -2);
        house.move(1, 1, 5);
        Check.answers("losses of both together", 40, house.margin(0));
        house.move(7, 0, 2);
        Check.answers("a loss of what was sold, by the last move", 20, house.margin(1));
        house.deposit(0, 1000);
        Check.answers("cash changes no margin", 40, house.margin(0));
    }

    private static void addsExtraAboveTheLimit() {
        MarginHouse house = Houses.withMembers(0, 0);
        house.instrument(100, 5, 7);
        house.instrument(100, 0, 11);
        house.trade(0, 1, 0, 5, 100);
        Check.answers("at the limit", 0, house.margin(0));
        Check.answers("at the limit, sold", 0, house.margin(1));
        house.trade(0, 1, 0, 1, 100);
        Check.answers("one above the limit", 7, house.margin(0));
        house.trade(0, 1, 0, 1, 100);
        Check.answers("two above the limit", 14, house.margin(0));
        Check.answers("two above the limit, sold", 14, house.margin(1));
        house.trade(1, 0, 1, 3, 100);
        Check.answers("of both instruments", 14 + 33, house.margin(0));
        house.move(2, 0, -1);
        Check.answers("beside the worst move", 14 + 33 + 7, house.margin(0));
        Check.answers("a move that gains does not lessen it", 14 + 33, house.margin(1));
    }

    private static void isGreat() {
        MarginHouse house = Houses.withMembers(0, 0);
        for (int i = 0; i < 6; i++) {
            house.instrument(0, 0, 1000000);
            house.move(3, i, -1000000);
            Houses.tradeMany(house, 0, 1, i, 1_000_000, 0);
        }
        Check.answers("the greatest margin", 12 * Houses.MOST_PAID, house.margin(0));
        Check.answers("of the other side", 6 * Houses.MOST_PAID, house.margin(1));
    }

    private static void isToldOfThoseThatAreNotLive() {
        MarginHouse house = Houses.withMembers(0, 0);
        house.instrument(100, 0, 0);
        house.move(0, 0, -2);
        house.trade(0, 1, 0, 5, 100);
        house.declare();
        Check.answers("in default", 10, house.margin(0));
        house.closeOut(0);
        Check.answers("out", 0, house.margin(0));
    }

    private static void refusesWrongOnes() {
        MarginHouse house = Houses.withMembers(0, 0);
        for (int wrong : new int[] {-1, 2, 8, Integer.MIN_VALUE, Integer.MAX_VALUE}) {
            Check.argumentLeaves(house, "margin(" + wrong + ")", () -> house.margin(wrong));
        }
    }
}
