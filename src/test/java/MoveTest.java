/** Promise 5: move. */
public final class MoveTest {
    public static void main(String[] args) {
        changesTheMargin();
        refusesWrongOnes();
        Check.end();
    }

    private static MarginHouse houseWithTwoInstruments() {
        MarginHouse house = Houses.withMembers(0, 0);
        house.instrument(10, 1000, 0);
        house.instrument(10, 1000, 0);
        house.trade(0, 1, 0, 3, 10);
        return house;
    }

    private static void changesTheMargin() {
        MarginHouse house = houseWithTwoInstruments();
        for (int move = 0; move <= 7; move++) {
            house.move(move, 0, -20 - move);
            Check.answers("the buyer's margin", 60 + 3 * move, house.margin(0));
            Check.answers("the seller's margin", 0, house.margin(1));
        }
        house.move(7, 0, 4);
        Check.answers("a move told anew", 78, house.margin(0));
        Check.answers("the seller loses by a rise", 12, house.margin(1));
        house.move(3, 0, 1000000);
        Check.answers("the greatest move", 3000000, house.margin(1));
        house.move(3, 0, -1000000);
        Check.answers("the least move", 3000000, house.margin(0));
        house.move(2, 1, -999999);
        Check.answers("of an instrument without a position", 3000000, house.margin(0));
    }

    private static void refusesWrongOnes() {
        MarginHouse house = houseWithTwoInstruments();
        house.move(0, 0, -5);
        for (int wrong : new int[] {-1, 8, Integer.MIN_VALUE, Integer.MAX_VALUE}) {
            Check.argumentLeaves(house, "move " + wrong, () -> house.move(wrong, 0, -9));
        }
        for (int wrong : new int[] {-1, 2, 6, Integer.MIN_VALUE, Integer.MAX_VALUE}) {
            Check.argumentLeaves(house, "of instrument " + wrong, () -> house.move(0, wrong, -9));
        }
        for (int wrong : new int[] {-1000001, 1000001, Integer.MIN_VALUE, Integer.MAX_VALUE}) {
            Check.argumentLeaves(house, "by " + wrong, () -> house.move(0, 0, wrong));
        }
    }
}
