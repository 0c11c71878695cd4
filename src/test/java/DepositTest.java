/** Promise 7: deposit. */
public final class DepositTest {
    public static void main(String[] args) {
        takesFromOneToTheMost();
        goesToItsOwnCash();
        fillsCashBelowZero();
        refusesOtherMembers();
        refusesOtherAmounts();
        refusesThoseThatAreNotLive();
        Check.end();
    }

    private static void takesFromOneToTheMost() {
        for (long amount : new long[] {1, 2, Edges.MOST_PAID - 1, Edges.MOST_PAID}) {
            House house = Houses.eightMembers();
            Check.answers("deposit of " + amount, amount, house.deposit(0, amount));
            Check.answers("once more", 2 * amount, house.deposit(0, amount));
            Check.answers("of the last member", amount, house.deposit(7, amount));
            Check.answers("all cash", 3 * amount, house.all(2));
        }
    }

    private static void goesToItsOwnCash() {
        House house = Houses.eightMembers();
        house.deposit(3, 44);
        for (int m = 0; m <= 7; m++) {
            Check.told("deposit(3, 44)", house, m, 0, m == 3 ? 44 : 0, 10 * m + 10);
        }
        Check.answers("the capital", 0, house.all(0));
    }

    private static void fillsCashBelowZero() {
        House house = Houses.withMembers(5, 6);
        house.instrument(0, 0, 0);
        house.trade(0, 1, 0, 1, 9);
        Check.answers("cash is below 0 still, which is no NONE", -1, house.deposit(0, 8));
        Check.answers("it was paid in", -1, house.told(0, 1));
        Check.answers("then at 0", 0, house.deposit(0, 1));
        Check.answers("then above", 1, house.deposit(0, 1));
    }

    private static void refusesOtherMembers() {
        for (int wrong : Edges.noMember(3)) {
            Twins.argument(Houses::withOneCalled, "deposit of " + wrong, house -> house.deposit(wrong, 1));
        }
        for (int wrong : Edges.noMember(8)) {
            Twins.argument(Houses::full, "deposit of " + wrong, house -> house.deposit(wrong, Edges.MOST_PAID));
        }
    }

    private static void refusesOtherAmounts() {
        for (long wrong : Edges.outside(1, Edges.MOST_PAID)) {
            Twins.argument(Houses::withOneCalled, "deposit of " + wrong, house -> house.deposit(0, wrong));
        }
        Twins.argument(Houses::withOneCalled, "deposit of -1", house -> house.deposit(0, -1));
    }

    private static void refusesThoseThatAreNotLive() {
        for (long amount : new long[] {1, Edges.MOST_PAID}) {
            Twins.state(Houses::withOneInDefault, "one in default pays", house -> house.deposit(0, amount));
            Twins.state(Houses::withOneOut, "one that is out pays", house -> house.deposit(0, amount));
        }
        for (long wrong : Edges.outside(1, Edges.MOST_PAID)) {
            Twins.argument(Houses::withOneInDefault, "one in default pays " + wrong, house -> house.deposit(0, wrong));
            Twins.argument(Houses::withOneOut, "one that is out pays " + wrong, house -> house.deposit(0, wrong));
        }
        House house = Houses.withOneOut();
        Check.answers("those that are live still pay", 3, house.deposit(1, 3));
    }
}
