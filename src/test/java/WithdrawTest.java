/** Promise 8: withdraw. */
public final class WithdrawTest {
    public static void main(String[] args) {
        takesOutDownToTheMargin();
        neverBelowZero();
        refusesWrongOnes();
        refusesThoseThatAreNotLive();
        Check.end();
    }

    private static void takesOutDownToTheMargin() {
        MarginHouse house = Houses.withMembers(0, 0);
        house.instrument(10, 2, 1);
        house.move(4, 0, -3);
        house.deposit(0, 100);
        house.trade(0, 1, 0, 10, 10);
        Check.answers("margin", 38, house.margin(0));
        Check.noneLeaves(house, "one more than can go", () -> house.withdraw(0, 63));
        Check.answers("withdraw(0, 2)", 98, house.withdraw(0, 2));
        Check.answers("down to the margin", 38, house.withdraw(0, 60));
        Check.noneLeaves(house, "below the margin", () -> house.withdraw(0, 1));
        Check.answers("its cash", 38, house.told(0, 1));
    }

    private static void neverBelowZero() {
        MarginHouse house = Houses.withMembers(9);
        house.deposit(0, Houses.MOST_PAID);
        Check.answers("all of it", 0, house.withdraw(0, Houses.MOST_PAID));
        Check.noneLeaves(house, "of nothing", () -> house.withdraw(0, 1));
        Check.noneLeaves(house, "very much of nothing", () -> house.withdraw(0, Houses.MOST_PAID));
    }

    private static void refusesWrongOnes() {
        MarginHouse house = Houses.withMembers(5, 6);
        house.deposit(0, 100);
        for (int wrong : new int[] {-1, 2, 8, Integer.MIN_VALUE, Integer.MAX_VALUE}) {
            Check.argumentLeaves(house, "withdraw of member " + wrong, () -> house.withdraw(wrong, 1));
        }
        for (long wrong : new long[] {-1, 0, Houses.MOST_PAID + 1, Long.MIN_VALUE, Long.MAX_VALUE}) {
            Check.argumentLeaves(house, "withdraw of " + wrong, () -> house.withdraw(0, wrong));
        }
    }

    private static void refusesThoseThatAreNotLive() {
        MarginHouse house = Houses.withMembers(5, 6);
        house.instrument(10, 0, 0);
        house.move(0, 0, -10);
        house.deposit(0, 9);
        house.trade(0, 1, 0, 1, 10);
        house.declare();
        Check.stateLeaves(house, "withdraw of one in default", () -> house.withdraw(0, 1));
        Check.stateLeaves(house, "that would be refused anyway", () -> house.withdraw(0, 10));
        Check.argument("and a wrong amount", () -> house.withdraw(0, 0));
        house.closeOut(0);
        Check.answers("it kept its cash", 9, house.told(0, 1));
        Check.stateLeaves(house, "withdraw of one that is out", () -> house.withdraw(0, 1));
    }
}
