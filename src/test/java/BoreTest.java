/** Promise 17: bore. */
public final class BoreTest {
    public static void main(String[] args) {
        MarginHouse house = Houses.withMembers(1, 2, 4, 0);
        house.instrument(0, 0, 0);
        house.capital(5);
        house.deposit(2, 3);
        house.trade(0, 3, 0, 1, 20);
        house.trade(1, 3, 0, 1, 2);
        borne(house, 0, 0, 0, 0, 0);
        house.declare();
        house.closeOut(0);
        borne(house, 1, 5, 4, 3, 7);
        Check.state("closeOut(0)", () -> house.closeOut(0));
        Check.argument("closeOut(9)", () -> house.closeOut(9));
        borne(house, 1, 5, 4, 3, 7);
        house.closeOut(1);
        borne(house, 2, 0, 0, 0, 0);
        for (int wrong : new int[] {-1, 5, Integer.MIN_VALUE, Integer.MAX_VALUE}) {
            Check.argumentLeaves(house, "bore(" + wrong + ")", () -> house.bore(wrong));
        }
        Check.end();
    }

    private static void borne(MarginHouse house, long... due) {
        for (int layer = 0; layer <= 4; layer++) {
            Check.answers("bore(" + layer + ")", due[layer], house.bore(layer));
        }
    }
}
