/** Promise 9: trade. */
public final class TradeTest {
    private static final int MILLION = Edges.MILLION;

    public static void main(String[] args) {
        movesUnitsAndCash();
        asksForNoMargin();
        countsTrades();
        takesTheEdgesOfQty();
        takesTheEdgesOfPrice();
        takesTheFirstAndTheLast();
        keepsWhatIsBoughtWithinAMillion();
        keepsWhatIsSoldWithinAMillion();
        keepsEachInstrumentWithinAMillion();
        refusesOtherMembers();
        refusesOneAndTheSame();
        refusesOtherInstruments();
        refusesOtherQtys();
        refusesOtherPrices();
        refusesThoseThatAreNotLive();
        throwsAheadOfNone();
        Check.end();
    }

    private static House threeMembers() {
        House house = Houses.withMembers(1, 2, 3);
        house.instrument(100, 0, 0);
        house.instrument(500, 0, 0);
        return house;
    }

    private static void movesUnitsAndCash() {
        House house = threeMembers();
        house.trade(0, 1, 0, 7, 90);
        Check.answers("the buyer's units", 7, house.position(0, 0));
        Check.answers("the seller's units", -7, house.position(1, 0));
        Check.answers("the buyer's cash", 70, house.told(0, 1));
        Check.answers("the seller's cash", -70, house.told(1, 1));
        Check.answers("units of the other instrument", 0, house.position(0, 1));
        house.trade(1, 0, 0, 10, 101);
        Check.answers("the seller's units, from 7", -3, house.position(0, 0));
        Check.answers("the buyer's units, from -7", 3, house.position(1, 0));
        Check.answers("the seller's cash", 80, house.told(0, 1));
        Check.answers("the buyer's cash", -80, house.told(1, 1));
        house.trade(1, 2, 0, 9, 100);
        Check.answers("no cash goes at the instrument's price", -80, house.told(1, 1));
        Check.told("nothing else changes", house, 2, 0, 0, 3);
    }

    private static void asksForNoMargin() {
        House house = threeMembers();
        house.move(0, 0, -100);
        Check.answers("buying beyond what its cash covers", 1, house.trade(0, 1, 0, 50, 100));
        Check.answers("called", 5000, house.called(0));
        Check.answers("and more, when it is called", 2, house.trade(0, 1, 0, 50, 200));
        Check.answers("with cash below 0", 3, house.trade(0, 1, 0, 50, 100));
    }

    private static void countsTrades() {
        House house = threeMembers();
        Check.answers("first", 1, house.trade(0, 1, 0, 1, 100));
        Check.answers("of another instrument and other members", 2, house.trade(2, 1, 1, 100000, 100));
        Houses.tradeMany(house, 2, 1, 1, 900_000, 100);
        Check.answers("all(4)", 11, house.all(4));
        Check.answers("a refused one", -1, house.trade(2, 0, 1, 1, 100));
        Check.answers("does not count", 12, house.trade(1, 0, 0, 1, 100));
        Check.answers("all(4)", 12, house.all(4));
    }

    private static void takesTheEdgesOfQty() {
        for (int qty : new int[] {1, 2, 99_999, 100_000}) {
            House house = threeMembers();
            Check.answers("qty " + qty, 1, house.trade(0, 1, 0, qty, 0));
            Check.answers("the buyer's units", qty, house.position(0, 0));
            Check.answers("the seller's units", -qty, house.position(1, 0));
            Check.answers("the buyer's cash", 100L * qty, house.told(0, 1));
        }
    }

    private static void takesTheEdgesOfPrice() {
        for (int price : new int[] {0, 1, MILLION - 1, MILLION}) {
            House house = threeMembers();
            Check.answers("price " + price, 1, house.trade(0, 1, 0, 100_000, price));
            Check.answers("the buyer's cash", 100_000L * (100 - price), house.told(0, 1));
            Check.answers("the seller's cash", -100_000L * (100 - price), house.told(1, 1));
        }
    }

    private static void takesTheFirstAndTheLast() {
        House house = Houses.full();
        Check.answers("the last buys from the first", 1, house.trade(7, 0, 5, 3, 90));
        Check.answers("bought", 3, house.position(7, 5));
        Check.answers("sold", -3, house.position(0, 5));
        Check.answers("the first buys from the last", 2, house.trade(0, 7, 0, 4, 90));
        Check.answers("sold", -4, house.position(7, 0));
        Check.answers("cash", 10, house.told(0, 1));
    }

    /** Member 0 has bought so many units of instrument 0 from member 1. */
    private static House bought(int units) {
        House house = threeMembers();
        Houses.tradeMany(house, 0, 1, 0, units, 100);
        return house;
    }

    private static void keepsWhatIsBoughtWithinAMillion() {
        Check.answers("100000 to a million", 10, bought(900_000).trade(0, 2, 0, 100_000, 100));
        Twins.none(() -> bought(900_001), "100000 beyond", house -> house.trade(0, 2, 0, 100_000, 90));
        Check.answers("99999 to a million", 11, bought(900_001).trade(0, 2, 0, 99_999, 100));
        Check.answers("one to a million", 11, bought(999_999).trade(0, 2, 0, 1, 100));
        Twins.none(() -> bought(999_999), "two beyond", house -> house.trade(0, 2, 0, 2, 90));
        Twins.none(() -> bought(MILLION), "one beyond", house -> house.trade(0, 2, 0, 1, 90));
        Check.answers("the position", MILLION, bought(MILLION).position(0, 0));
        Check.answers("less of it", 11, bought(MILLION).trade(2, 0, 0, 100_000, 100));
        Twins.none(() -> bought(MILLION), "both beyond", house -> house.trade(0, 1, 0, 1, 90));
    }

    private static void keepsWhatIsSoldWithinAMillion() {
        Check.answers("100000 to a million", 10, bought(900_000).trade(2, 1, 0, 100_000, 100));
        Twins.none(() -> bought(900_001), "100000 beyond", house -> house.trade(2, 1, 0, 100_000, 90));
        Check.answers("99999 to a million", 11, bought(900_001).trade(2, 1, 0, 99_999, 100));
        Check.answers("one to a million", 11, bought(999_999).trade(2, 1, 0, 1, 100));
        Twins.none(() -> bought(999_999), "two beyond", house -> house.trade(2, 1, 0, 2, 90));
        Twins.none(() -> bought(MILLION), "one beyond", house -> house.trade(2, 1, 0, 1, 90));
        Check.answers("the position", -MILLION, bought(MILLION).position(1, 0));
        Check.answers("less of it", 11, bought(MILLION).trade(1, 2, 0, 100_000, 100));
    }

    private static void keepsEachInstrumentWithinAMillion() {
        House house = bought(MILLION);
        Houses.tradeMany(house, 0, 1, 1, MILLION, 500);
        Check.answers("a million of both", 20, house.all(4));
        Check.answers("units open", 2 * MILLION, house.all(5));
        Check.answers("and all of it back", 21, house.trade(1, 0, 1, 100_000, 500));
    }

    private static void refusesOtherMembers() {
        for (int wrong : Edges.noMember(3)) {
            Twins.argument(TradeTest::threeMembers, "buyer " + wrong, house -> house.trade(wrong, 1, 0, 1, 1));
            Twins.argument(TradeTest::threeMembers, "seller " + wrong, house -> house.trade(1, wrong, 0, 1, 1));
            Twins.argument(TradeTest::threeMembers, "both " + wrong, house -> house.trade(wrong, wrong, 0, 1, 1));
        }
        for (int wrong : Edges.noMember(8)) {
            Twins.argument(Houses::full, "buyer " + wrong, house -> house.trade(wrong, 7, 5, 1, 1));
            Twins.argument(Houses::full, "seller " + wrong, house -> house.trade(7, wrong, 5, 1, 1));
        }
    }

    private static void refusesOneAndTheSame() {
        for (int m = 0; m <= 7; m++) {
            int same = m;
            Twins.argument(Houses::full, "with itself", house -> house.trade(same, same, 0, 1, 1));
        }
    }

    private static void refusesOtherInstruments() {
        for (int wrong : Edges.noInstrument(2)) {
            Twins.argument(TradeTest::threeMembers, "instrument " + wrong, house -> house.trade(0, 1, wrong, 1, 1));
        }
        for (int wrong : Edges.noInstrument(6)) {
            Twins.argument(Houses::full, "instrument " + wrong, house -> house.trade(0, 7, wrong, 1, 1));
        }
    }

    private static void refusesOtherQtys() {
        for (int wrong : Edges.outside(1, 100_000)) {
            Twins.argument(TradeTest::threeMembers, "qty " + wrong, house -> house.trade(0, 1, 0, wrong, 1));
        }
        Twins.argument(TradeTest::threeMembers, "qty -1", house -> house.trade(0, 1, 0, -1, 1));
    }

    private static void refusesOtherPrices() {
        for (int wrong : Edges.outside(0, MILLION)) {
            Twins.argument(TradeTest::threeMembers, "price " + wrong, house -> house.trade(0, 1, 0, 1, wrong));
        }
    }

    /** Of four members, 0 and 3 are in default, 0 by what it bought and 3 by what it sold. */
    private static House twoInDefault() {
        House house = Houses.withMembers(1, 2, 3, 4);
        house.instrument(100, MILLION, 0);
        house.trade(0, 1, 0, 1, 110);
        house.trade(2, 3, 0, 1, 90);
        Check.answers("0 and 3 are called", 2, house.declare());
        return house;
    }

    private static House twoOut() {
        House house = twoInDefault();
        house.closeOut(0);
        house.closeOut(3);
        return house;
    }

    private static void refusesThoseThatAreNotLive() {
        Twins.state(TradeTest::twoInDefault, "a buyer in default", house -> house.trade(0, 1, 0, 1, 100));
        Twins.state(TradeTest::twoInDefault, "a seller in default", house -> house.trade(1, 0, 0, 1, 100));
        Twins.state(TradeTest::twoInDefault, "both in default", house -> house.trade(0, 3, 0, 1, 100));
        Twins.state(TradeTest::twoOut, "a buyer that is out", house -> house.trade(0, 1, 0, 1, 100));
        Twins.state(TradeTest::twoOut, "a seller that is out", house -> house.trade(1, 0, 0, 1, 100));
        Twins.state(TradeTest::twoOut, "both out", house -> house.trade(3, 0, 0, 1, 100));
        Check.answers("the others", 3, twoInDefault().trade(1, 2, 0, 1, 100));
        Check.answers("the others", 3, twoOut().trade(2, 1, 0, 1, 100));
    }

    /** Member 0 has bought a million units from member 1, and member 2 is in default. */
    private static House fullAndInDefault() {
        House house = bought(MILLION);
        house.trade(2, 0, 1, 1, 510);
        Check.answers("2 is called", 1, house.declare());
        return house;
    }

    private static void throwsAheadOfNone() {
        Twins.state(TradeTest::fullAndInDefault, "not live, and beyond", house -> house.trade(0, 2, 0, 1, 100));
        Twins.state(TradeTest::fullAndInDefault, "not live, and beyond", house -> house.trade(2, 1, 0, 1, 100));
        Twins.argument(() -> bought(MILLION), "itself, and beyond", house -> house.trade(0, 0, 0, 1, 100));
        Twins.argument(() -> bought(MILLION), "qty, and beyond", house -> house.trade(0, 2, 0, 100_001, 100));
        Twins.argument(() -> bought(MILLION), "price, and beyond", house -> house.trade(0, 2, 0, 1, MILLION + 1));
        Twins.argument(TradeTest::fullAndInDefault, "itself, not live", house -> house.trade(2, 2, 0, 1, 100));
        Twins.argument(TradeTest::fullAndInDefault, "nobody, not live", house -> house.trade(2, 3, 0, 1, 100));
        Twins.argument(TradeTest::fullAndInDefault, "nobody, not live", house -> house.trade(-1, 2, 0, 1, 100));
        Twins.argument(TradeTest::fullAndInDefault, "instrument, not live", house -> house.trade(0, 2, 2, 1, 100));
        Twins.argument(TradeTest::fullAndInDefault, "qty, not live", house -> house.trade(0, 2, 0, 0, 100));
        Twins.argument(TradeTest::fullAndInDefault, "price, not live", house -> house.trade(0, 2, 0, 1, -1));
    }
}
