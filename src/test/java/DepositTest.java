/** Promise 7: deposit. */
public final class DepositTest {
    public static void main(String[] args) {
        paysIn();
        refusesWrongOnes();
        refusesThoseThatAreNotLive();
        Check.end();
    }

    private static void paysIn() {
        MarginHouse house = Houses.withMembers(5, 6);
        Check.answers("deposit(1, 1)", 1, house.deposit(1, 1));
        Check.answers("deposit(1, 10^12)", Houses.MOST_PAID + 1, house.deposit(1, Houses.MOST_PAID));
        Check.answers("its cash", Houses.MOST_PAID + 1, house.told(1, 1));
        Check.answers("the other's cash", 0, house.told(0, 1));
        Check.answers("its contribution", 6, house.told(1, 2));
        house.instrument(0, 0, 0);
        house.trade(0, 1, 0, 1, 9);
        Check.answers("into cash below 0", -1, house.deposit(0, 8));
    }

    private static void refusesWrongOnes() {
        MarginHouse house = Houses.withMembers(5, 6);
        for (int wrong : new int[] {-1, 2, 8, Integer.MIN_VALUE, Integer.MAX_VALUE}) {
            Check.argumentLeaves(house, "deposit of member " + wrong, () -> house.deposit(wrong, 1));
        }
        for (long wrong : new long[] {-1, 0, Houses.MOST_PAID + 1, Long.MIN_VALUE, Long.MAX_VALUE}) {
            Check.argumentLeaves(house, "deposit of " + wrong, () -> house.deposit(0, wrong));
        }
    }

    private static void refusesThoseThatAreNotLive() {
        MarginHouse house = Houses.withMembers(5, 6);
        house.instrument(0, 0, 0);
        house.trade(0, 1, 0, 1, 9);
        house.declare();
        Check.stateLeaves(house, "deposit of one in default", () -> house.deposit(0, 9));
        Check.argument("and a wrong amount", () -> house.deposit(0, 0));
        house.closeOut(0);
        Check.stateLeaves(house, "deposit of one that is out", () -> house.deposit(0, 9));
        Check.argument("and a wrong amount", () -> house.deposit(0, Houses.MOST_PAID + 1));
    }
}
