/** Promise 12: called. */
public final class CalledTest {
    public static void main(String[] args) {
        MarginHouse house = Houses.withMembers(1000, 1000);
        house.instrument(100, 0, 0);
        house.move(0, 0, -2);
        Check.answers("without positions", 0, house.called(0));
        house.trade(0, 1, 0, 5, 100);
        Check.answers("without cash", 10, house.called(0));
        house.deposit(0, 9);
        Check.answers("one below", 1, house.called(0));
        house.deposit(0, 1);
        Check.answers("cash at the margin", 0, house.called(0));
        house.deposit(0, 1);
        Check.answers("cash above the margin", 0, house.called(0));
        house.mark(0, 90);
        Check.answers("cash below 0", 10 + 39, house.called(0));
        Check.answers("it is no part of a call who has cash", 0, house.called(1));
        house.declare();
        Check.answers("in default", 0, house.called(0));
        house.closeOut(0);
        Check.answers("out", 0, house.called(0));
        for (int wrong : new int[] {-1, 2, 8, Integer.MIN_VALUE, Integer.MAX_VALUE}) {
            Check.argumentLeaves(house, "called(" + wrong + ")", () -> house.called(wrong));
        }
        Check.end();
    }
}
