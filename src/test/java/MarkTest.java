/** Promise 10: mark. */
public final class MarkTest {
    private static final int MILLION = Edges.MILLION;

    public static void main(String[] args) {
        paysForEachUnit();
        becomesThePrice();
        takesTheEdgesOfPrice();
        paysTheGreatestPosition();
        countsLiveOnesBelowZero();
        settlesThoseInDefaultToo();
        paysNothingToThoseWithoutUnits();
        refusesOtherInstruments();
        refusesOtherPrices();
        Check.end();
    }

    /** Of three members, 0 has bought 5 of instrument 0 from 1, and 3 of instrument 1 from 2. */
    private static House threeMembers() {
        House house = Houses.withMembers(7, 8, 9);
        house.instrument(100, 0, 0);
        house.instrument(100, 0, 0);
        house.trade(0, 1, 0, 5, 100);
        house.trade(0, 2, 1, 3, 100);
        return house;
    }

    private static void cash(String after, House house, long... due) {
        for (int m = 0; m < due.length; m++) {
            Check.answers(after + ": cash of " + m, due[m], house.told(m, 1));
        }
    }

    private static void paysForEachUnit() {
        House house = threeMembers();
        Check.answers("a rise", 1, house.mark(0, 107));
        cash("a rise", house, 35, -35, 0);
        Check.answers("a fall", 1, house.mark(0, 90));
        cash("a fall", house, -50, 50, 0);
        Check.answers("of the other instrument", 2, house.mark(1, 101));
        cash("of the other instrument", house, -47, 50, -3);
    }

    private static void becomesThePrice() {
        House house = threeMembers();
        house.mark(0, 90);
        Check.answers("the same price", 1, house.mark(0, 90));
        cash("the same price", house, -50, 50, 0);
        house.trade(2, 1, 0, 2, 91);
        cash("a trade at 91 when it is 90", house, -50, 52, -2);
        house.trade(2, 1, 1, 2, 100);
        cash("the other instrument's price is what it was", house, -50, 52, -2);
        Twins.answers(MarkTest::threeMembers, "the price that it has", 0, same -> same.mark(0, 100));
    }

    private static void takesTheEdgesOfPrice() {
        for (int price : new int[] {0, 1, MILLION - 1, MILLION}) {
            House house = threeMembers();
            Check.answers("mark to " + price, 1, house.mark(0, price));
            cash("mark to " + price, house, 5L * (price - 100), 5L * (100 - price), 0);
            Check.answers("and back", 0, house.mark(0, 100));
            cash("and back from " + price, house, 0, 0, 0);
        }
    }

    private static void paysTheGreatestPosition() {
        House house = Houses.full();
        Houses.tradeMany(house, 7, 0, 5, MILLION, 100);
        house.mark(5, 0);
        cash("a million units by -100", house, 100L * MILLION, 0, 0, 0, 0, 0, 0, -100L * MILLION);
        Check.answers("by a million", 1, house.mark(5, MILLION));
        Check.answers("who bought", Edges.MOST_PAID - 100L * MILLION, house.told(7, 1));
        Check.answers("who sold", 100L * MILLION - Edges.MOST_PAID, house.told(0, 1));
        Check.answers("by a million down", 1, house.mark(5, 0));
        Check.answers("who bought", -100L * MILLION, house.told(7, 1));
    }

    private static void countsLiveOnesBelowZero() {
        House house = Houses.withMembers(0, 0, 0, 0, 0);
        house.instrument(100, 0, 0);
        house.deposit(1, 10);
        house.trade(0, 1, 0, 1, 100);
        house.trade(0, 2, 0, 1, 100);
        house.trade(0, 3, 0, 1, 100);
        Check.answers("two below 0, one at 0", 2, house.mark(0, 110));
        Check.answers("all three below 0", 3, house.mark(0, 111));
        Check.answers("none at the price it was", 0, house.mark(0, 100));
        Check.answers("one below by as little as can be", 1, house.mark(0, 99));
        Check.answers("three once more", 3, house.mark(0, 111));
        house.declare();
        Check.answers("none of them is live", 0, house.mark(0, 112));
        Check.answers("the buyer below 0", 1, house.mark(0, 99));
        house.deposit(0, 3);
        house.trade(4, 0, 0, 1, 100);
        Check.answers("what is below 0 by a trade counts", 1, house.mark(0, 99));
    }

    private static void settlesThoseInDefaultToo() {
        House house = Houses.withMembers(0, 0);
        house.instrument(100, 0, 0);
        house.trade(0, 1, 0, 4, 100);
        house.mark(0, 110);
        house.declare();
        house.mark(0, 120);
        Check.told("in default", house, 1, 1, -80, 0);
        house.mark(0, 50);
        Check.told("it stays so with cash enough", house, 1, 1, 200, 0);
    }

    private static void paysNothingToThoseWithoutUnits() {
        House house = Houses.withOneOut();
        Check.answers("mark", 1, house.mark(0, 3));
        Check.told("one that is out", house, 0, 2, 50, 10);
        House empty = new House();
        empty.instrument(5, 0, 0);
        Check.answers("without members", 0, empty.mark(0, MILLION));
        empty.member(0);
        empty.member(0);
        empty.trade(0, 1, 0, 1, 0);
        cash("the price was set without members", empty, MILLION, -MILLION);
    }

    private static void refusesOtherInstruments() {
        for (int wrong : Edges.noInstrument(2)) {
            Twins.argument(MarkTest::threeMembers, "of " + wrong, house -> house.mark(wrong, 1));
        }
        for (int wrong : Edges.noInstrument(6)) {
            Twins.argument(Houses::full, "of " + wrong, house -> house.mark(wrong, 1));
        }
    }

    private static void refusesOtherPrices() {
        for (int wrong : Edges.outside(0, MILLION)) {
            Twins.argument(MarkTest::threeMembers, "to " + wrong, house -> house.mark(0, wrong));
            Twins.argument(MarkTest::threeMembers, "to " + wrong, house -> house.mark(1, wrong));
        }
    }
}
