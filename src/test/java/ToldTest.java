/** Promise 15: told. */
public final class ToldTest {
    public static void main(String[] args) {
        MarginHouse house = Houses.withMembers(40, 50);
        house.instrument(10, 0, 0);
        house.deposit(0, 6);
        house.trade(0, 1, 0, 1, 20);
        Check.answers("live", 0, house.told(0, 0));
        Check.answers("cash below 0", -4, house.told(0, 1));
        Check.answers("contribution", 40, house.told(0, 2));
        Check.answers("the other's cash", 10, house.told(1, 1));
        Check.answers("the other's contribution", 50, house.told(1, 2));
        house.declare();
        Check.answers("in default", 1, house.told(0, 0));
        Check.answers("cash of one in default", -4, house.told(0, 1));
        Check.answers("contribution of one in default", 40, house.told(0, 2));
        house.closeOut(0);
        Check.answers("out", 2, house.told(0, 0));
        Check.answers("cash of one that is out", 0, house.told(0, 1));
        Check.answers("contribution that stays the fund's", 36, house.told(0, 2));
        for (int wrong : new int[] {-1, 2, 8, Integer.MIN_VALUE, Integer.MAX_VALUE}) {
            Check.argumentLeaves(house, "told(" + wrong + ", 0)", () -> house.told(wrong, 0));
        }
        for (int wrong : new int[] {-1, 3, Integer.MIN_VALUE, Integer.MAX_VALUE}) {
            Check.argumentLeaves(house, "told(0, " + wrong + ")", () -> house.told(0, wrong));
        }
        Check.end();
    }
}
