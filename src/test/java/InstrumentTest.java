/** Promise 3: instrument. */
public final class InstrumentTest {
    private static final int MILLION = Edges.MILLION;

    public static void main(String[] args) {
        numbersSixAsTheyCome();
        answersNoneWhenThereAreSix();
        takesTheEdgesOfPrice();
        takesTheEdgesOfLimit();
        takesTheEdgesOfExtra();
        refusesOthers();
        comesWithoutPositionsMovesAndBids();
        Check.end();
    }

    private static House fiveInstruments() {
        House house = Houses.withMembers(1, 2);
        for (int i = 0; i <= 4; i++) {
            house.instrument(i, i, i);
        }
        return house;
    }

    private static void numbersSixAsTheyCome() {
        House house = Houses.withMembers(1, 2);
        for (int i = 0; i <= 5; i++) {
            Check.answers("instrument", i, house.instrument(i, MILLION, 0));
            Check.answers("position", 0, house.position(1, i));
            house.trade(0, 1, i, 1, 0);
            Check.answers("each one has its own price", i * (i + 1) / 2, house.told(0, 1));
        }
    }

    private static void answersNoneWhenThereAreSix() {
        Twins.none(Houses::full, "a seventh", house -> house.instrument(0, 0, 0));
        Twins.none(Houses::full, "a seventh", house -> house.instrument(MILLION, MILLION, MILLION));
        for (int wrong : Edges.outside(0, MILLION)) {
            Twins.argument(Houses::full, "a seventh at " + wrong, house -> house.instrument(wrong, 0, 0));
            Twins.argument(Houses::full, "a seventh of limit " + wrong, house -> house.instrument(0, wrong, 0));
            Twins.argument(Houses::full, "a seventh of extra " + wrong, house -> house.instrument(0, 0, wrong));
        }
    }

    private static void takesTheEdgesOfPrice() {
        for (int price : new int[] {0, 1, MILLION - 1, MILLION}) {
            House house = Houses.withMembers(0, 0);
            Check.answers("price " + price, 0, house.instrument(price, 0, 0));
            house.trade(0, 1, 0, 1, 7);
            Check.answers("the buyer at " + price, price - 7, house.told(0, 1));
            Check.answers("the seller at " + price, 7 - price, house.told(1, 1));
        }
    }

    private static void takesTheEdgesOfLimit() {
        for (int limit : new int[] {0, 1, MILLION - 1, MILLION}) {
            House house = Houses.withMembers(0, 0);
            Check.answers("limit " + limit, 0, house.instrument(10, limit, 3));
            Houses.tradeMany(house, 0, 1, 0, limit, 10);
            Check.answers("at the limit of " + limit, 0, house.margin(0));
            if (limit < MILLION) {
                house.trade(0, 1, 0, 1, 10);
                Check.answers("one above the limit of " + limit, 3, house.margin(0));
                Check.answers("one above the limit of " + limit + ", sold", 3, house.margin(1));
            }
        }
    }

    private static void takesTheEdgesOfExtra() {
        for (int extra : new int[] {0, 1, MILLION - 1, MILLION}) {
            House house = Houses.withMembers(0, 0);
            Check.answers("extra " + extra, 0, house.instrument(10, 0, extra));
            Houses.tradeMany(house, 0, 1, 0, MILLION, 10);
            Check.answers("margin by extra " + extra, (long) MILLION * extra, house.margin(0));
        }
    }

    private static void refusesOthers() {
        for (int wrong : Edges.outside(0, MILLION)) {
            Twins.argument(InstrumentTest::fiveInstruments, "price " + wrong,
                    house -> house.instrument(wrong, MILLION, MILLION));
            Twins.argument(InstrumentTest::fiveInstruments, "limit " + wrong,
                    house -> house.instrument(MILLION, wrong, MILLION));
            Twins.argument(InstrumentTest::fiveInstruments, "extra " + wrong,
                    house -> house.instrument(MILLION, MILLION, wrong));
            Twins.argument(House::new, "all " + wrong, house -> house.instrument(wrong, wrong, wrong));
        }
    }

    private static void comesWithoutPositionsMovesAndBids() {
        House house = Houses.withOneCalled();
        house.move(1, 1, -90);
        house.bid(1, 1, 90);
        Check.answers("instrument", 2, house.instrument(100, MILLION, 5));
        Check.answers("units", 0, house.position(0, 2));
        long before = house.margin(0);
        house.trade(0, 2, 2, 7, 100);
        Check.answers("it has no moves yet", before, house.margin(0));
        house.declare();
        house.closeOut(0);
        Check.answers("for nothing, as no bid stands for it", 7, house.position(1, 2));
    }
}
