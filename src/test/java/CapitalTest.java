/** Promise 4: capital. */
public final class CapitalTest {
    public static void main(String[] args) {
        growsByTheAmount();
        growsAgainAfterItBore();
        refusesOtherAmounts();
        Check.end();
    }

    private static void growsByTheAmount() {
        House house = new House();
        long due = 0;
        for (long amount : new long[] {0, 1, 0, Edges.MOST_PAID - 1, Edges.MOST_PAID, 5, Edges.MOST_PAID}) {
            due += amount;
            Check.answers("capital(" + amount + ")", due, house.capital(amount));
            Check.answers("all(0)", due, house.all(0));
        }
    }

    private static void growsAgainAfterItBore() {
        House house = Houses.withMembers(0, 0);
        house.instrument(0, 0, 0);
        house.capital(6);
        house.trade(0, 1, 0, 1, 4);
        house.declare();
        house.closeOut(0);
        Check.answers("what is left", 2, house.capital(0));
        Check.answers("and more", 9, house.capital(7));
    }

    private static void refusesOtherAmounts() {
        for (long wrong : Edges.outside(0, Edges.MOST_PAID)) {
            Twins.argument(House::new, "capital(" + wrong + ")", house -> house.capital(wrong));
            Twins.argument(CapitalTest::withCapital, "capital(" + wrong + ") on more", house -> house.capital(wrong));
        }
    }

    private static House withCapital() {
        House house = Houses.full();
        house.capital(77);
        return house;
    }
}
