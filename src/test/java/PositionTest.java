/** Promise 16: position. */
public final class PositionTest {
    public static void main(String[] args) {
        MarginHouse house = Houses.withMembers(0, 0, 0);
        house.instrument(10, 0, 0);
        house.instrument(10, 0, 0);
        Check.answers("at first", 0, house.position(2, 1));
        house.trade(0, 1, 1, 8, 10);
        house.trade(2, 0, 1, 3, 10);
        Check.answers("bought and sold", 5, house.position(0, 1));
        Check.answers("sold", -8, house.position(1, 1));
        Check.answers("bought", 3, house.position(2, 1));
        Check.answers("of the other instrument", 0, house.position(0, 0));
        house.mark(1, 5);
        Check.answers("a price changes no units", 5, house.position(0, 1));
        house.declare();
        Check.answers("default changes no units", 5, house.position(0, 1));
        house.closeOut(0);
        Check.answers("closed out", 0, house.position(0, 1));
        Check.answers("the taker's", -3, house.position(1, 1));
        for (int wrong : new int[] {-1, 3, 8, Integer.MIN_VALUE, Integer.MAX_VALUE}) {
            Check.argumentLeaves(house, "position(" + wrong + ", 0)", () -> house.position(wrong, 0));
        }
        for (int wrong : new int[] {-1, 2, 6, Integer.MIN_VALUE, Integer.MAX_VALUE}) {
            Check.argumentLeaves(house, "position(0, " + wrong + ")", () -> house.position(0, wrong));
        }
        Check.end();
    }
}
