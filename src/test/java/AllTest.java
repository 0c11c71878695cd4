/** Promise 18: all. */
public final class AllTest {
    public static void main(String[] args) {
        MarginHouse house = Houses.withMembers(1, 20, 30, 0);
        all(house, 0, 0, 0, 51, 0, 0);
        house.instrument(10, 0, 0);
        house.instrument(10, 0, 0);
        house.capital(7);
        house.deposit(1, 100);
        house.withdraw(1, 60);
        all(house, 7, 0, 40, 51, 0, 0);
        house.trade(0, 3, 0, 4, 35);
        house.trade(2, 1, 1, 6, 10);
        house.trade(1, 3, 0, 5, 10);
        all(house, 7, 0, 40, 51, 3, 4 + 6 + 5);
        house.mark(0, 11);
        all(house, 7, 0, 40, 51, 3, 4 + 6 + 5);
        house.trade(1, 2, 0, 1, 500);
        house.declare();
        all(house, 7, 0, 40, 51, 4, 4 + 6 + 6);
        // 0 lacks 96, of which 1, 7 and 30 are borne (1 is in default as well), and 30 called
        house.closeOut(0);
        all(house, 0, 28, 40 + 96 - 30, 20, 4, 6 + 6 + 3);
        for (int wrong : new int[] {-1, 6, Integer.MIN_VALUE, Integer.MAX_VALUE}) {
            Check.argumentLeaves(house, "all(" + wrong + ")", () -> house.all(wrong));
        }
        Check.end();
    }

    private static void all(MarginHouse house, long... due) {
        for (int what = 0; what <= 5; what++) {
            Check.answers("all(" + what + ")", due[what], house.all(what));
        }
    }
}
