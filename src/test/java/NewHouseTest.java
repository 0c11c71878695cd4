/** Promise 1: a new object. */
public final class NewHouseTest {
    public static void main(String[] args) {
        isEmpty();
        movesAndBidsAreZero();
        sharesNothingWithAnother();
        Check.end();
    }

    private static void isEmpty() {
        MarginHouse house = new MarginHouse();
        Check.argument("margin(0)", () -> house.margin(0));
        Check.argument("told(0, 0)", () -> house.told(0, 0));
        Check.argument("mark(0, 0)", () -> house.mark(0, 0));
        Check.argument("move(0, 0, 0)", () -> house.move(0, 0, 0));
        Check.argument("closeOut(0)", () -> house.closeOut(0));
        for (int what = 0; what <= 5; what++) {
            Check.answers("all(" + what + ")", 0, house.all(what));
        }
        for (int layer = 0; layer <= 4; layer++) {
            Check.answers("bore(" + layer + ")", 0, house.bore(layer));
        }
        Check.answers("declare()", 0, house.declare());
    }

    private static void movesAndBidsAreZero() {
        MarginHouse house = Houses.withMembers(0, 0, 0);
        house.instrument(10, 1000, 9);
        house.trade(0, 1, 0, 5, 10);
        Check.answers("margin without moves", 0, house.margin(0));
        house.mark(0, 0);
        house.declare();
        Check.answers("closeOut(0)", 50, house.closeOut(0));
        Check.answers("the taker's cash: it asked nothing", 50, house.told(1, 1));
    }

    private static void sharesNothingWithAnother() {
        MarginHouse used = Houses.withMembers(7, 8);
        used.instrument(5, 0, 1);
        used.capital(3);
        used.deposit(0, 10);
        used.trade(0, 1, 0, 2, 5);
        isEmpty();
    }
}
