/** Promise 4: capital. */
public final class CapitalTest {
    public static void main(String[] args) {
        MarginHouse house = new MarginHouse();
        Check.answers("capital(0)", 0, house.capital(0));
        Check.answers("capital(7)", 7, house.capital(7));
        Check.answers("capital(10^12)", Houses.MOST_PAID + 7, house.capital(Houses.MOST_PAID));
        Check.answers("capital(5)", Houses.MOST_PAID + 12, house.capital(5));
        Check.answers("all(0)", Houses.MOST_PAID + 12, house.all(0));
        for (long wrong : new long[] {-1, Houses.MOST_PAID + 1, Long.MIN_VALUE, Long.MAX_VALUE}) {
            Check.argumentLeaves(house, "capital(" + wrong + ")", () -> house.capital(wrong));
        }
        Check.end();
    }
}
