/** Promise 8: withdraw. */
public final class WithdrawTest {
    public static void main(String[] args) {
        takesOutDownToTheMargin();
        takesOutDownToZero();
        answersNoneWhenItIsBelowAlready();
        takesFromOneToTheMost();
        refusesOtherMembers();
        refusesOtherAmounts();
        refusesThoseThatAreNotLive();
        Check.end();
    }

    /** Member 0 has 100 in cash and a margin of 38, by a move and by extra; member 1 sold to it. */
    private static House withMargin() {
        House house = Houses.withMembers(1, 2);
        house.instrument(10, 2, 1);
        house.move(4, 0, -3);
        house.deposit(0, 100);
        house.trade(0, 1, 0, 10, 10);
        return house;
    }

    private static void takesOutDownToTheMargin() {
        Check.answers("margin", 38, withMargin().margin(0));
        Check.answers("one above the margin", 39, withMargin().withdraw(0, 61));
        Check.answers("to the margin", 38, withMargin().withdraw(0, 62));
        Twins.none(WithdrawTest::withMargin, "one below the margin", house -> house.withdraw(0, 63));
        Twins.none(WithdrawTest::withMargin, "all cash", house -> house.withdraw(0, 100));
        Twins.none(WithdrawTest::withMargin, "the most", house -> house.withdraw(0, Edges.MOST_PAID));
        House house = withMargin();
        house.withdraw(0, 62);
        Check.told("at the margin", house, 0, 0, 38, 1);
        Check.answers("nothing more", -1, house.withdraw(0, 1));
        Check.told("at the margin", house, 0, 0, 38, 1);
        Check.answers("not called", 0, house.called(0));
    }

    private static House withCashAlone() {
        House house = Houses.withMembers(9, 9);
        house.deposit(0, 5);
        return house;
    }

    private static void takesOutDownToZero() {
        Check.answers("to 1", 1, withCashAlone().withdraw(0, 4));
        Check.answers("to 0", 0, withCashAlone().withdraw(0, 5));
        Twins.none(WithdrawTest::withCashAlone, "to -1, as its contribution is no cash",
                house -> house.withdraw(0, 6));
        Twins.none(WithdrawTest::withCashAlone, "of nothing", house -> house.withdraw(1, 1));
    }

    private static void answersNoneWhenItIsBelowAlready() {
        Twins.none(Houses::withOneCalled, "below its margin", house -> house.withdraw(0, 1));
        Twins.none(WithdrawTest::withCashBelowZero, "below 0", house -> house.withdraw(0, 1));
        Check.answers("of another one", 8, withCashBelowZero().withdraw(1, 1));
    }

    private static House withCashBelowZero() {
        House house = Houses.withMembers(5, 6);
        house.instrument(0, 0, 0);
        house.trade(0, 1, 0, 1, 9);
        return house;
    }

    private static void takesFromOneToTheMost() {
        for (long amount : new long[] {1, 2, Edges.MOST_PAID - 1, Edges.MOST_PAID}) {
            House house = Houses.eightMembers();
            house.deposit(0, Edges.MOST_PAID);
            house.deposit(7, Edges.MOST_PAID);
            Check.answers("withdraw of " + amount, Edges.MOST_PAID - amount, house.withdraw(0, amount));
            Check.answers("of the last member", Edges.MOST_PAID - amount, house.withdraw(7, amount));
            Check.answers("all cash", 2 * (Edges.MOST_PAID - amount), house.all(2));
        }
    }

    private static void refusesOtherMembers() {
        for (int wrong : Edges.noMember(2)) {
            Twins.argument(WithdrawTest::withMargin, "withdraw of " + wrong, house -> house.withdraw(wrong, 1));
        }
        for (int wrong : Edges.noMember(8)) {
            Twins.argument(Houses::full, "withdraw of " + wrong, house -> house.withdraw(wrong, Edges.MOST_PAID));
        }
    }

    private static void refusesOtherAmounts() {
        for (long wrong : Edges.outside(1, Edges.MOST_PAID)) {
            Twins.argument(WithdrawTest::withMargin, "withdraw of " + wrong, house -> house.withdraw(0, wrong));
            Twins.argument(Houses::withOneCalled, "ahead of NONE, of " + wrong, house -> house.withdraw(0, wrong));
        }
        Twins.argument(WithdrawTest::withMargin, "withdraw of -1", house -> house.withdraw(0, -1));
    }

    private static void refusesThoseThatAreNotLive() {
        for (long amount : new long[] {1, 50, 51, Edges.MOST_PAID}) {
            Twins.state(Houses::withOneInDefault, "one in default takes " + amount, house -> house.withdraw(0, amount));
            Twins.state(Houses::withOneOut, "one that is out takes " + amount, house -> house.withdraw(0, amount));
        }
        for (long wrong : Edges.outside(1, Edges.MOST_PAID)) {
            Twins.argument(Houses::withOneInDefault, "in default and " + wrong, house -> house.withdraw(0, wrong));
            Twins.argument(Houses::withOneOut, "out and " + wrong, house -> house.withdraw(0, wrong));
        }
    }
}
