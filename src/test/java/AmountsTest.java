/**
 * Terms: no amount is ever beyond 10^15, either way. A call pays in at most 10^12 and a closing out brings at most
 * 6 * 10^12, so 512 calls cannot come there: what they can reach is taken. The runs of more calls than the document
 * promises anything for hold the program to its limit all the same.
 */
public final class AmountsTest {
    public static void main(String[] args) {
        takesAllThat512CallsCanPay();
        capitalStopsAtTheLimit();
        cashStopsAtTheLimit();
        cashStopsAtTheLimitBelowZero();
        cashOfTheTakerStopsAtTheLimit();
        cashOfTheDefaulterStopsAtTheLimit();
        lossesStopAtTheLimit();
        Check.end();
    }

    private static void takesAllThat512CallsCanPay() {
        House house = new House();
        for (int n = 1; n <= House.MOST_CALLS; n++) {
            Check.answers("capital", n * Edges.MOST_PAID, house.capital(Edges.MOST_PAID));
        }
        House rich = Houses.withMembers(0);
        for (int n = 1; n <= House.MOST_CALLS - 1; n++) {
            Check.answers("deposit", n * Edges.MOST_PAID, rich.deposit(0, Edges.MOST_PAID));
        }
    }

    private static House withCapitalAtTheLimit() {
        House house = House.forMoreCalls();
        for (int n = 1; n <= 1000; n++) {
            house.capital(Edges.MOST_PAID);
        }
        Check.answers("capital", Edges.MOST_HELD, house.all(0));
        return house;
    }

    private static void capitalStopsAtTheLimit() {
        Twins.none(AmountsTest::withCapitalAtTheLimit, "capital(1)", house -> house.capital(1));
        Twins.none(AmountsTest::withCapitalAtTheLimit, "capital(10^12)", house -> house.capital(Edges.MOST_PAID));
        Twins.answers(AmountsTest::withCapitalAtTheLimit, "capital(0)", Edges.MOST_HELD, house -> house.capital(0));
        Twins.argument(AmountsTest::withCapitalAtTheLimit, "capital(-1)", house -> house.capital(-1));
    }

    /** Members without contributions, instrument 0 at 0 and instrument 1 at 10. */
    private static House begin() {
        House house = House.forMoreCalls();
        for (int m = 0; m <= 2; m++) {
            house.member(0);
        }
        house.instrument(0, 1_000_000, 0);
        house.instrument(10, 1_000_000, 0);
        return house;
    }

    /** Member 0 has cash at the limit, and one unit of instrument 1, bought from member 1. */
    private static House richHouse() {
        House house = begin();
        house.trade(0, 1, 1, 1, 10);
        for (int n = 1; n <= 1000; n++) {
            house.deposit(0, Edges.MOST_PAID);
        }
        Check.told("cash at the limit", house, 0, 0, Edges.MOST_HELD, 0);
        return house;
    }

    private static void cashStopsAtTheLimit() {
        Twins.none(AmountsTest::richHouse, "deposit(0, 1)", house -> house.deposit(0, 1));
        Twins.none(AmountsTest::richHouse, "the buyer gets cash", house -> house.trade(0, 1, 1, 1, 9));
        Twins.none(AmountsTest::richHouse, "the seller gets cash", house -> house.trade(1, 0, 1, 1, 11));
        Twins.none(AmountsTest::richHouse, "a rise", house -> house.mark(1, 11));
        Twins.argument(AmountsTest::richHouse, "deposit(0, 0)", house -> house.deposit(0, 0));
        House house = richHouse();
        Check.answers("a trade without cash", 2, house.trade(0, 1, 1, 1, 10));
        Check.answers("a fall", 0, house.mark(1, 9));
        Check.answers("a rise to the limit", 0, house.mark(1, 10));
        Check.told("a rise to the limit", house, 0, 0, Edges.MOST_HELD, 0);
        Check.answers("withdraw", Edges.MOST_HELD - 1, house.withdraw(0, 1));
        Check.answers("deposit to the limit", Edges.MOST_HELD, house.deposit(0, 1));
    }

    /** Member 0 lacks 10^15 and has one unit of instrument 1; member 1 has taken out what came of it. */
    private static House poorHouse() {
        House house = begin();
        house.trade(0, 1, 1, 1, 10);
        for (int n = 1; n <= 10_000; n++) {
            house.trade(0, 1, 0, 100_000, 1_000_000);
            house.trade(1, 0, 0, 100_000, 0);
        }
        for (int n = 1; n <= 1000; n++) {
            house.withdraw(1, Edges.MOST_PAID);
        }
        Check.told("cash at the limit below 0", house, 0, 0, -Edges.MOST_HELD, 0);
        Check.told("what came of it is taken out", house, 1, 0, 0, 0);
        return house;
    }

    private static void cashStopsAtTheLimitBelowZero() {
        Twins.none(AmountsTest::poorHouse, "the buyer pays cash", house -> house.trade(0, 1, 1, 1, 11));
        Twins.none(AmountsTest::poorHouse, "the seller pays cash", house -> house.trade(1, 0, 1, 1, 9));
        Twins.none(AmountsTest::poorHouse, "a fall", house -> house.mark(1, 9));
        House house = poorHouse();
        Check.answers("a trade without cash", 20_002, house.trade(0, 1, 0, 1, 0));
        Check.answers("a rise", 2, house.mark(1, 11));
        Check.answers("a fall to the limit", 1, house.mark(1, 10));
        Check.told("a fall to the limit", house, 0, 0, -Edges.MOST_HELD, 0);
        Check.answers("called", Edges.MOST_HELD, house.called(0));
    }

    /** Member 1 is in default with one unit sold, for which member 0 asks least. */
    private static House richTaker() {
        House house = richHouse();
        house.trade(1, 2, 0, 1, 1);
        house.trade(2, 1, 0, 1, 0);
        Check.answers("1 is called", 1, house.declare());
        house.bid(0, 1, 1);
        house.bid(2, 1, 2);
        return house;
    }

    private static void cashOfTheTakerStopsAtTheLimit() {
        Twins.none(AmountsTest::richTaker, "closeOut(1)", house -> house.closeOut(1));
        House house = richTaker();
        house.withdraw(0, 1);
        Check.answers("closeOut(1)", 2, house.closeOut(1));
        Check.told("the taker's cash to the limit", house, 0, 0, Edges.MOST_HELD, 0);
    }

    private static House poorDefaulter(int bid) {
        House house = poorHouse();
        house.declare();
        house.bid(1, 1, bid);
        house.bid(2, 1, bid);
        return house;
    }

    /** The loss would not be beyond the limit, but the defaulter's cash would. */
    private static House poorDefaulterAndCapital() {
        House house = poorDefaulter(1);
        house.capital(1);
        return house;
    }

    private static void cashOfTheDefaulterStopsAtTheLimit() {
        Twins.none(AmountsTest::poorDefaulterAndCapital, "closeOut(0)", house -> house.closeOut(0));
        House house = poorDefaulter(0);
        Check.answers("closeOut(0)", Edges.MOST_HELD, house.closeOut(0));
        Check.bore("all that can be missing", house, 0, 0, 0, 0, Edges.MOST_HELD);
        Check.answers("losses", Edges.MOST_HELD, house.all(1));
    }

    /** Losses are at the limit, and member 2 is in default and lacks 3. */
    private static House withLossesAtTheLimit() {
        House house = poorDefaulter(0);
        house.closeOut(0);
        house.trade(2, 1, 0, 1, 3);
        house.trade(1, 2, 0, 1, 0);
        Check.answers("2 is called", 1, house.declare());
        return house;
    }

    private static void lossesStopAtTheLimit() {
        Twins.none(AmountsTest::withLossesAtTheLimit, "closeOut(2)", house -> house.closeOut(2));
        House house = withLossesAtTheLimit();
        house.capital(2);
        Check.answers("a loss of 1 is too much", -1, house.closeOut(2));
        house.capital(1);
        Check.answers("no loss is not", 0, house.closeOut(2));
        Check.answers("losses", Edges.MOST_HELD, house.all(1));
    }
}
