/** Promise 3: instrument. */
public final class InstrumentTest {
    public static void main(String[] args) {
        numbersAsTheyCome();
        keepsPriceLimitAndExtra();
        refusesWrongOnes();
        Check.end();
    }

    private static void numbersAsTheyCome() {
        MarginHouse house = Houses.withMembers(1);
        for (int i = 0; i < 6; i++) {
            int at = i;
            Check.argument("position in one that is not there yet", () -> house.position(0, at));
            Check.answers("instrument", i, house.instrument(i == 5 ? 1000000 : 0, i == 5 ? 1000000 : 0, i == 5 ? 1000000 : 0));
            Check.answers("position", 0, house.position(0, i));
        }
        Check.noneLeaves(house, "a seventh instrument", () -> house.instrument(1, 1, 1));
        Check.argumentLeaves(house, "a seventh one, wrong", () -> house.instrument(1, 1, -1));
    }

    private static void keepsPriceLimitAndExtra() {
        MarginHouse house = Houses.withMembers(0, 0);
        house.instrument(1, 1, 1);
        house.instrument(70, 4, 9);
        house.trade(0, 1, 1, 6, 60);
        Check.answers("cash by the price", 60, house.told(0, 1));
        Check.answers("margin by limit and extra", 18, house.margin(0));
    }

    private static void refusesWrongOnes() {
        MarginHouse house = Houses.withMembers(1);
        for (int wrong : new int[] {-1, 1000001, Integer.MIN_VALUE, Integer.MAX_VALUE}) {
            Check.argumentLeaves(house, "price " + wrong, () -> house.instrument(wrong, 0, 0));
            Check.argumentLeaves(house, "limit " + wrong, () -> house.instrument(0, wrong, 0));
            Check.argumentLeaves(house, "extra " + wrong, () -> house.instrument(0, 0, wrong));
        }
        Check.answers("the first one after refused ones", 0, house.instrument(0, 0, 0));
    }
}
