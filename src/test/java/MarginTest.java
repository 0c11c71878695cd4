/** Promise 11: margin, and what Terms say of it. */
public final class MarginTest {
    private static final int MILLION = Edges.MILLION;

    public static void main(String[] args) {
        isZeroWithoutPositions();
        isTheWorstMove();
        isNeverBelowZero();
        addsExtraAboveTheLimit();
        addsExtraOfEachInstrument();
        isGreat();
        isToldOfThoseThatAreNotLive();
        readsAlone();
        refusesOtherMembers();
        Check.end();
    }

    private static void isZeroWithoutPositions() {
        House house = Houses.withMembers(0, 0);
        house.instrument(100, 0, MILLION);
        house.move(0, 0, -MILLION);
        house.move(1, 0, MILLION);
        Check.answers("without positions", 0, house.margin(0));
        house.trade(0, 1, 0, 1, 100);
        house.trade(1, 0, 0, 1, 100);
        Check.answers("when they are closed", 0, house.margin(0));
    }

    private static void isTheWorstMove() {
        House house = Houses.withMembers(0, 0, 0);
        house.instrument(100, 1000, 1);
        house.instrument(100, 1000, 1);
        house.trade(0, 1, 0, 10, 100);
        house.trade(2, 0, 1, 4, 100);
        house.move(0, 0, -3);
        house.move(0, 1, -6);
        Check.answers("gains of one instrument lessen losses of another", 6, house.margin(0));
        Check.answers("a move that only gains", 0, house.margin(1));
        Check.answers("a loss of what was bought", 24, house.margin(2));
        house.move(1, 0, -2);
        house.move(1, 1, 5);
        Check.answers("losses of both together", 40, house.margin(0));
        house.move(7, 0, 2);
        Check.answers("a loss of what was sold, by the last move", 20, house.margin(1));
        house.deposit(0, 1000);
        house.mark(0, 99);
        Check.answers("cash and prices change no margin", 40, house.margin(0));
    }

    private static void isNeverBelowZero() {
        House house = Houses.withMembers(0, 0);
        house.instrument(100, 1000, 1);
        house.instrument(100, 1000, 1);
        house.trade(0, 1, 0, 2, 100);
        house.trade(0, 1, 1, 3, 100);
        for (int move = 0; move <= 7; move++) {
            house.move(move, 0, 4);
        }
        Check.answers("when all moves gain", 0, house.margin(0));
        house.move(3, 0, -3);
        house.move(3, 1, 2);
        Check.answers("when a move gains as much as it loses", 0, house.margin(0));
        house.move(3, 0, -2);
        Check.answers("when it gains more", 0, house.margin(0));
        house.move(3, 0, -4);
        Check.answers("when it loses more", 2, house.margin(0));
    }

    private static void addsExtraAboveTheLimit() {
        House house = Houses.withMembers(0, 0);
        house.instrument(100, 5, 7);
        house.trade(0, 1, 0, 4, 100);
        Check.answers("one below the limit", 0, house.margin(0));
        house.trade(0, 1, 0, 1, 100);
        Check.answers("at the limit", 0, house.margin(0));
        Check.answers("at the limit, sold", 0, house.margin(1));
        house.trade(0, 1, 0, 1, 100);
        Check.answers("one above the limit", 7, house.margin(0));
        Check.answers("one above the limit, sold", 7, house.margin(1));
        house.trade(0, 1, 0, 1, 100);
        Check.answers("two above the limit", 14, house.margin(0));
        house.move(2, 0, -1);
        Check.answers("beside the worst move", 14 + 7, house.margin(0));
        Check.answers("a move that gains does not lessen it", 14, house.margin(1));
        house.move(2, 0, 2);
        Check.answers("a move that gains does not lessen it", 14, house.margin(0));
        Check.answers("beside the worst move, sold", 14 + 14, house.margin(1));
    }

    private static void addsExtraOfEachInstrument() {
        House house = Houses.withMembers(0, 0);
        int due = 0;
        for (int i = 0; i <= 5; i++) {
            house.instrument(100, i + 1, 10 + i);
            house.trade(i % 2, 1 - i % 2, i, i + 1, 100);
            Check.answers("at the limit of " + i, due, house.margin(0));
            house.trade(i % 2, 1 - i % 2, i, 1, 100);
            due += 10 + i;
            Check.answers("one above the limit of " + i, due, house.margin(0));
            Check.answers("of the other side", due, house.margin(1));
        }
    }

    private static void isGreat() {
        House house = Houses.withMembers(0, 0);
        for (int i = 0; i <= 5; i++) {
            house.instrument(0, 0, MILLION);
            house.move(3, i, -MILLION);
            Houses.tradeMany(house, 0, 1, i, MILLION, 0);
        }
        Check.answers("the greatest margin", 12 * Edges.MOST_PAID, house.margin(0));
        Check.answers("of the other side", 6 * Edges.MOST_PAID, house.margin(1));
        for (int i = 0; i <= 5; i++) {
            house.move(7, i, MILLION);
        }
        Check.answers("of the other side by the last move", 12 * Edges.MOST_PAID, house.margin(1));
        Check.answers("called by so much", 12 * Edges.MOST_PAID, house.called(1));
    }

    private static void isToldOfThoseThatAreNotLive() {
        Check.answers("called", 80, Houses.withOneCalled().margin(0));
        Check.answers("in default", 80, Houses.withOneInDefault().margin(0));
        Check.answers("out", 0, Houses.withOneOut().margin(0));
    }

    private static void readsAlone() {
        Twins.answers(Houses::withOneCalled, "margin(0)", 80, house -> house.margin(0));
        Twins.answers(Houses::withOneInDefault, "margin(0)", 80, house -> house.margin(0));
    }

    private static void refusesOtherMembers() {
        for (int wrong : Edges.noMember(3)) {
            Twins.argument(Houses::withOneCalled, "margin(" + wrong + ")", house -> house.margin(wrong));
        }
        for (int wrong : Edges.noMember(8)) {
            Twins.argument(Houses::full, "margin(" + wrong + ")", house -> house.margin(wrong));
        }
        Twins.answers(Houses::full, "margin(7)", 0, house -> house.margin(7));
    }
}
