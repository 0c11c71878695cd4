/** Promise 16: position. */
public final class PositionTest {
    private static final int MILLION = Edges.MILLION;

    public static void main(String[] args) {
        isOfEachMemberInEachInstrument();
        isBoughtLessSold();
        isAMillionAtMost();
        readsAlone();
        refusesOtherMembers();
        refusesOtherInstruments();
        Check.end();
    }

    private static void isOfEachMemberInEachInstrument() {
        House house = Houses.full();
        for (int m = 0; m <= 6; m++) {
            for (int i = 0; i <= 5; i++) {
                house.trade(m, 7, i, 10 * m + i + 1, 100);
            }
        }
        for (int i = 0; i <= 5; i++) {
            for (int m = 0; m <= 6; m++) {
                Check.answers("bought of " + i + " by " + m, 10 * m + i + 1, house.position(m, i));
            }
            Check.answers("sold of " + i, -210 - 7 * (i + 1), house.position(7, i));
        }
    }

    private static void isBoughtLessSold() {
        House house = Houses.withMembers(0, 0, 0);
        house.instrument(10, 0, 0);
        house.instrument(10, 0, 0);
        Check.answers("at first", 0, house.position(2, 1));
        house.trade(0, 1, 1, 8, 10);
        house.trade(2, 0, 1, 3, 10);
        Check.answers("bought and sold", 5, house.position(0, 1));
        Check.answers("sold", -8, house.position(1, 1));
        Check.answers("bought", 3, house.position(2, 1));
        Check.answers("of the other instrument", 0, house.position(0, 0));
        house.mark(1, 5);
        Check.answers("a price changes no units", 5, house.position(0, 1));
        house.declare();
        Check.answers("default changes no units", 5, house.position(0, 1));
        house.closeOut(0);
        Check.answers("closed out", 0, house.position(0, 1));
        Check.answers("the taker's", -3, house.position(1, 1));
    }

    private static void isAMillionAtMost() {
        House house = Houses.full();
        Houses.tradeMany(house, 7, 0, 5, MILLION, 100);
        Check.answers("bought", MILLION, house.position(7, 5));
        Check.answers("sold", -MILLION, house.position(0, 5));
    }

    private static void readsAlone() {
        Twins.answers(Houses::withOneInDefault, "position(0, 1)", 4, house -> house.position(0, 1));
        Twins.answers(Houses::withOneInDefault, "position(2, 0)", -4, house -> house.position(2, 0));
    }

    private static void refusesOtherMembers() {
        for (int wrong : Edges.noMember(3)) {
            Twins.argument(Houses::withOneOut, "position(" + wrong + ", 0)", house -> house.position(wrong, 0));
        }
        for (int wrong : Edges.noMember(8)) {
            Twins.argument(Houses::full, "position(" + wrong + ", 5)", house -> house.position(wrong, 5));
        }
    }

    private static void refusesOtherInstruments() {
        for (int wrong : Edges.noInstrument(2)) {
            Twins.argument(Houses::withOneOut, "position(0, " + wrong + ")", house -> house.position(0, wrong));
        }
        for (int wrong : Edges.noInstrument(6)) {
            Twins.argument(Houses::full, "position(7, " + wrong + ")", house -> house.position(7, wrong));
        }
    }
}
