/** Promise 18: all. */
public final class AllTest {
    public static void main(String[] args) {
        tellsOfTheHouse();
        countsThoseThatAreOut();
        cashCanBeBelowZero();
        isGreat();
        unitsOpenAreGreat();
        readsAlone();
        refusesOtherWhats();
        Check.end();
    }

    private static void all(String after, House house, long... due) {
        for (int what = 0; what <= 5; what++) {
            Check.answers(after + ": all(" + what + ")", due[what], house.all(what));
        }
    }

    private static void tellsOfTheHouse() {
        House house = Houses.withMembers(1, 20, 30, 0);
        all("members", house, 0, 0, 0, 51, 0, 0);
        house.instrument(10, 0, 0);
        house.instrument(10, 0, 0);
        house.capital(7);
        house.deposit(1, 100);
        house.withdraw(1, 60);
        all("cash", house, 7, 0, 40, 51, 0, 0);
        house.trade(0, 3, 0, 4, 35);
        house.trade(2, 1, 1, 6, 10);
        house.trade(1, 3, 0, 5, 10);
        all("trades", house, 7, 0, 40, 51, 3, 4 + 6 + 5);
        house.mark(0, 11);
        all("a price", house, 7, 0, 40, 51, 3, 4 + 6 + 5);
        house.trade(1, 2, 0, 1, 500);
        house.declare();
        all("two in default", house, 7, 0, 40, 51, 4, 4 + 6 + 6);
        // 0 lacks 96, of which 1, 7 and 30 are borne (1 is in default as well), and 30 called
        house.closeOut(0);
        all("a closing out", house, 0, 28, 40 + 96 - 30, 20, 4, 6 + 6 + 3);
    }

    private static void countsThoseThatAreOut() {
        House house = Houses.withOneOut();
        all("one is out, with cash and contribution", house, 0, 0, 50, 60, 2, 8);
    }

    private static void cashCanBeBelowZero() {
        House house = Houses.withMembers(0, 0);
        house.instrument(10, 0, 0);
        house.trade(0, 1, 0, 1, 13);
        Check.answers("of which one is below 0", 0, house.all(2));
        house.withdraw(1, 1);
        Check.answers("below 0 by one", -1, house.all(2));
        house.withdraw(1, 2);
        Check.answers("below 0", -3, house.all(2));
    }

    private static void isGreat() {
        House house = new House();
        for (int m = 0; m <= 7; m++) {
            house.member(Edges.MOST_PAID);
            house.deposit(m, Edges.MOST_PAID);
            house.deposit(m, Edges.MOST_PAID);
            house.capital(Edges.MOST_PAID);
        }
        all("the most of eight", house, 8 * Edges.MOST_PAID, 0, 16 * Edges.MOST_PAID, 8 * Edges.MOST_PAID, 0, 0);
    }

    private static void unitsOpenAreGreat() {
        House house = Houses.full();
        for (int i = 0; i <= 5; i++) {
            for (int m = 0; m <= 3; m++) {
                Houses.tradeMany(house, m, 7 - m, i, Edges.MILLION, 100);
            }
        }
        all("a million each", house, 0, 0, 0, 360, 240, 24L * Edges.MILLION);
    }

    private static void readsAlone() {
        long[] due = {0, 0, 50, 60, 2, 8};
        for (int n = 0; n <= 5; n++) {
            int what = n;
            Twins.answers(Houses::withOneInDefault, "all(" + what + ")", due[what], house -> house.all(what));
        }
    }

    private static void refusesOtherWhats() {
        for (int wrong : Edges.outside(0, 5)) {
            Twins.argument(House::new, "all(" + wrong + ") at first", house -> house.all(wrong));
            Twins.argument(Houses::withOneOut, "all(" + wrong + ")", house -> house.all(wrong));
        }
    }
}
