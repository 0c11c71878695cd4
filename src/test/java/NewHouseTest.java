import java.util.List;
import java.util.function.Supplier;

/** Promise 1: a new object, and what each call does when nothing is there yet. */
public final class NewHouseTest {
    public static void main(String[] args) {
        hasNoMembers();
        hasNoInstruments();
        holdsNothing();
        numbersBeginAtZero();
        movesAreZero();
        hasNoCapitalAndNoLosses();
        sharesNothingWithAnother();
        Check.end();
    }

    private static void hasNoMembers() {
        List<Supplier<House>> begins = List.of(House::new, Houses::sixInstruments);
        for (Supplier<House> begin : begins) {
            for (int m : new int[] {0, 7}) {
                Twins.argument(begin, "bid of " + m, house -> house.bid(m, 0, 0));
                Twins.argument(begin, "deposit of " + m, house -> house.deposit(m, 1));
                Twins.argument(begin, "withdraw of " + m, house -> house.withdraw(m, 1));
                Twins.argument(begin, "trade of " + m, house -> house.trade(m, 1, 0, 1, 0));
                Twins.argument(begin, "margin of " + m, house -> house.margin(m));
                Twins.argument(begin, "called of " + m, house -> house.called(m));
                Twins.argument(begin, "closeOut of " + m, house -> house.closeOut(m));
                Twins.argument(begin, "told of " + m, house -> house.told(m, 0));
                Twins.argument(begin, "position of " + m, house -> house.position(m, 0));
            }
            Twins.answers(begin, "declare", 0, House::declare);
        }
        Twins.answers(Houses::sixInstruments, "mark to the price it has", 0, house -> house.mark(0, 100));
    }

    private static void hasNoInstruments() {
        List<Supplier<House>> begins = List.of(House::new, Houses::eightMembers);
        for (Supplier<House> begin : begins) {
            for (int i : new int[] {0, 5}) {
                Twins.argument(begin, "move of " + i, house -> house.move(0, i, 0));
                Twins.argument(begin, "bid for " + i, house -> house.bid(0, i, 0));
                Twins.argument(begin, "trade of " + i, house -> house.trade(0, 1, i, 1, 0));
                Twins.argument(begin, "mark of " + i, house -> house.mark(i, 0));
                Twins.argument(begin, "position in " + i, house -> house.position(0, i));
            }
        }
        House house = Houses.eightMembers();
        for (int m = 0; m <= 7; m++) {
            Check.answers("margin without instruments", 0, house.margin(m));
            Check.answers("called without instruments", 0, house.called(m));
        }
        Check.answers("declare without instruments", 0, house.declare());
    }

    private static void holdsNothing() {
        House house = new House();
        for (int what = 0; what <= 5; what++) {
            Check.answers("all(" + what + ") of a new one", 0, house.all(what));
        }
        Check.bore("of a new one", house, 0, 0, 0, 0, 0);
    }

    private static void numbersBeginAtZero() {
        House house = new House();
        Check.answers("the first member", 0, house.member(1));
        Check.answers("the first instrument", 0, house.instrument(1, 1, 1));
        Check.answers("the first trade, when there are two", 1, secondTrades(house));
    }

    private static long secondTrades(House house) {
        house.member(1);
        return house.trade(0, 1, 0, 1, 1);
    }

    private static void movesAreZero() {
        House house = Houses.full();
        for (int i = 0; i <= 5; i++) {
            Houses.tradeMany(house, 0, 7, i, Edges.MILLION, 100);
            Check.answers("margin of what was bought", 0, house.margin(0));
            Check.answers("margin of what was sold", 0, house.margin(7));
        }
    }

    private static void hasNoCapitalAndNoLosses() {
        House house = Houses.withMembers(0, 0);
        house.instrument(0, 0, 0);
        house.trade(0, 1, 0, 1, 8);
        house.declare();
        Check.answers("closeOut(0)", 8, house.closeOut(0));
        Check.bore("without capital", house, 0, 0, 0, 0, 8);
        Check.answers("losses: these alone", 8, house.all(1));
        Check.answers("the first capital", 5, house.capital(5));
    }

    private static void sharesNothingWithAnother() {
        House used = Houses.withOneOut();
        used.capital(3);
        used.bid(1, 0, 9);
        Check.same("a new one beside one that was used", Probe.of(new House()), Probe.of(new House()));
        Check.same("one made like another", Probe.of(Houses.withOneOut()), Probe.of(Houses.withOneOut()));
        holdsNothing();
        numbersBeginAtZero();
        Check.answers("the used one's capital", 3, used.all(0));
    }
}
