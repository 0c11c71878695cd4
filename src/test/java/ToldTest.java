/** Promise 15: told. */
public final class ToldTest {
    public static void main(String[] args) {
        tellsOfEachMember();
        tellsWhereItStands();
        readsAlone();
        refusesOtherMembers();
        refusesOtherWhats();
        Check.end();
    }

    private static void tellsOfEachMember() {
        House house = Houses.full();
        house.deposit(0, 3);
        house.deposit(7, 4);
        house.trade(0, 7, 5, 1, 110);
        Check.told("cash below 0", house, 0, 0, -7, 10);
        Check.told("nothing happened to it", house, 3, 0, 0, 40);
        Check.told("the last one", house, 7, 0, 14, 80);
    }

    private static void tellsWhereItStands() {
        House house = Houses.withMembers(40, 50);
        house.instrument(10, 0, 0);
        house.deposit(0, 6);
        house.trade(0, 1, 0, 1, 20);
        Check.told("called, but live", house, 0, 0, -4, 40);
        house.declare();
        Check.told("in default", house, 0, 1, -4, 40);
        house.closeOut(0);
        Check.told("out: what is left of its contribution", house, 0, 2, 0, 36);
        Check.told("out with cash", Houses.withOneOut(), 0, 2, 50, 10);
    }

    private static void readsAlone() {
        Twins.answers(Houses::withOneInDefault, "told(0, 0)", 1, house -> house.told(0, 0));
        Twins.answers(Houses::withOneInDefault, "told(0, 1)", 50, house -> house.told(0, 1));
        Twins.answers(Houses::withOneInDefault, "told(0, 2)", 10, house -> house.told(0, 2));
    }

    private static void refusesOtherMembers() {
        for (int what = 0; what <= 2; what++) {
            int of = what;
            for (int wrong : Edges.noMember(3)) {
                Twins.argument(Houses::withOneOut, "told(" + wrong + ", " + of + ")", house -> house.told(wrong, of));
            }
            for (int wrong : Edges.noMember(8)) {
                Twins.argument(Houses::full, "told(" + wrong + ", " + of + ")", house -> house.told(wrong, of));
            }
        }
    }

    private static void refusesOtherWhats() {
        for (int wrong : Edges.outside(0, 2)) {
            Twins.argument(Houses::withOneOut, "told(0, " + wrong + ")", house -> house.told(0, wrong));
            Twins.argument(Houses::full, "told(7, " + wrong + ")", house -> house.told(7, wrong));
            Twins.argument(House::new, "told(0, " + wrong + ")", house -> house.told(0, wrong));
        }
    }
}
