/** Promise 5: move. */
public final class MoveTest {
    private static final int MILLION = Edges.MILLION;

    public static void main(String[] args) {
        eachMoveOfEachInstrumentCounts();
        isToldAnew();
        takesTheEdgesOfBy();
        refusesOtherMoves();
        refusesOtherInstruments();
        refusesOtherBys();
        Check.end();
    }

    /** Member 0 has one unit of each of the six instruments, bought from member 1. */
    private static House oneOfEach() {
        House house = Houses.withMembers(0, 0);
        Houses.addSixInstruments(house);
        for (int i = 0; i <= 5; i++) {
            house.trade(0, 1, i, 1, 100);
        }
        return house;
    }

    private static void eachMoveOfEachInstrumentCounts() {
        for (int move = 0; move <= 7; move++) {
            House house = oneOfEach();
            for (int i = 0; i <= 5; i++) {
                int by = -10 * move - i - 1;
                house.move(move, i, by);
                Check.answers("move " + move + " of " + i, -by, house.margin(0));
                Check.answers("the other side", 0, house.margin(1));
                house.move(move, i, -by);
                Check.answers("the other way", 0, house.margin(0));
                Check.answers("the other side, the other way", -by, house.margin(1));
                house.move(move, i, 0);
                Check.answers("back to 0", 0, house.margin(1));
            }
        }
    }

    private static void isToldAnew() {
        House house = oneOfEach();
        house.move(0, 0, -20);
        house.move(7, 0, -30);
        Check.answers("the worst one", 30, house.margin(0));
        house.move(7, 0, -5);
        Check.answers("told anew, not added", 20, house.margin(0));
        house.move(0, 1, -4);
        Check.answers("one move of two instruments", 24, house.margin(0));
        house.move(1, 2, -23);
        Check.answers("other moves are not added", 24, house.margin(0));
        house.move(1, 2, -25);
        Check.answers("but are the worst if greater", 25, house.margin(0));
    }

    private static void takesTheEdgesOfBy() {
        for (int by : new int[] {-MILLION, -MILLION + 1, -1, 0, 1, MILLION - 1, MILLION}) {
            House house = oneOfEach();
            house.move(7, 5, by);
            Check.answers("who bought, by " + by, Math.max(0, -by), house.margin(0));
            Check.answers("who sold, by " + by, Math.max(0, by), house.margin(1));
        }
    }

    private static void refusesOtherMoves() {
        for (int wrong : Edges.outside(0, 7)) {
            Twins.argument(MoveTest::oneOfEach, "move " + wrong, house -> house.move(wrong, 0, -MILLION));
            Twins.argument(MoveTest::oneOfEach, "move " + wrong, house -> house.move(wrong, 5, MILLION));
        }
    }

    private static void refusesOtherInstruments() {
        for (int wrong : Edges.noInstrument(6)) {
            Twins.argument(MoveTest::oneOfEach, "of instrument " + wrong, house -> house.move(0, wrong, -MILLION));
            Twins.argument(MoveTest::oneOfEach, "of instrument " + wrong, house -> house.move(7, wrong, MILLION));
        }
        for (int wrong : Edges.noInstrument(2)) {
            Twins.argument(Houses::withOneCalled, "of instrument " + wrong, house -> house.move(0, wrong, -MILLION));
        }
    }

    private static void refusesOtherBys() {
        for (int wrong : Edges.outside(-MILLION, MILLION)) {
            Twins.argument(MoveTest::oneOfEach, "by " + wrong, house -> house.move(0, 0, wrong));
            Twins.argument(MoveTest::oneOfEach, "by " + wrong, house -> house.move(7, 5, wrong));
        }
    }
}
