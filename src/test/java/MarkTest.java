/** Promise 10: mark. */
public final class MarkTest {
    public static void main(String[] args) {
        paysByUnits();
        countsLiveOnesBelowZero();
        settlesThoseInDefaultToo();
        refusesWrongOnes();
        Check.end();
    }

    private static void paysByUnits() {
        MarginHouse house = Houses.withMembers(0, 0, 0);
        house.instrument(100, 0, 0);
        house.instrument(100, 0, 0);
        house.trade(0, 1, 0, 5, 100);
        house.trade(0, 2, 1, 3, 100);
        Check.answers("a rise", 1, house.mark(0, 107));
        Check.answers("who bought", 35, house.told(0, 1));
        Check.answers("who sold", -35, house.told(1, 1));
        Check.answers("who has none of it", 0, house.told(2, 1));
        Check.answers("a fall", 1, house.mark(0, 90));
        Check.answers("who bought", -50, house.told(0, 1));
        Check.answers("who sold", 50, house.told(1, 1));
        Check.answers("the same price", 1, house.mark(0, 90));
        Check.answers("nothing moved", -50, house.told(0, 1));
        house.trade(0, 1, 0, 1, 91);
        Check.answers("trades are settled at the new price", -51, house.told(0, 1));
        Check.answers("to the least price", 1, house.mark(0, 0));
        Check.answers("who bought", -51 - 540, house.told(0, 1));
        Check.answers("to the greatest price", 1, house.mark(0, 1000000));
        Check.answers("who bought", -51 - 540 + 6000000, house.told(0, 1));
    }

    private static void countsLiveOnesBelowZero() {
        MarginHouse house = Houses.withMembers(0, 0, 0, 0);
        house.instrument(100, 0, 0);
        house.deposit(1, 10);
        house.trade(0, 1, 0, 1, 100);
        house.trade(0, 2, 0, 1, 100);
        house.trade(0, 3, 0, 1, 100);
        Check.answers("two below 0, one at 0", 2, house.mark(0, 110));
        Check.answers("all three below 0", 3, house.mark(0, 111));
        house.declare();
        Check.answers("none of them live", 0, house.mark(0, 112));
        Check.answers("the buyer below 0", 1, house.mark(0, 99));
    }

    private static void settlesThoseInDefaultToo() {
        MarginHouse house = Houses.withMembers(0, 0);
        house.instrument(100, 0, 0);
        house.trade(0, 1, 0, 4, 100);
        house.mark(0, 110);
        house.declare();
        house.mark(0, 120);
        Check.answers("in default", 1, house.told(1, 0));
        Check.answers("its cash", -80, house.told(1, 1));
        house.mark(0, 50);
        Check.answers("its cash", 200, house.told(1, 1));
        Check.answers("still in default", 1, house.told(1, 0));
    }

    private static void refusesWrongOnes() {
        MarginHouse house = Houses.withMembers(0, 0);
        house.instrument(100, 0, 0);
        house.trade(0, 1, 0, 4, 100);
        for (int wrong : new int[] {-1, 1, 6, Integer.MIN_VALUE, Integer.MAX_VALUE}) {
            Check.argumentLeaves(house, "mark of instrument " + wrong, () -> house.mark(wrong, 1));
        }
        for (int wrong : new int[] {-1, 1000001, Integer.MIN_VALUE, Integer.MAX_VALUE}) {
            Check.argumentLeaves(house, "mark to " + wrong, () -> house.mark(0, wrong));
        }
        house.mark(0, 101);
        Check.answers("from the price before refused ones", 4, house.told(0, 1));
    }
}
