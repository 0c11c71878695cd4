/** Promise 13: declare. */
public final class DeclareTest {
    public static void main(String[] args) {
        MarginHouse house = Houses.withMembers(1, 1, 1, 1);
        Check.answers("nobody is called", 0, house.declare());
        house.instrument(100, 0, 0);
        house.move(0, 0, -10);
        house.trade(0, 3, 0, 1, 100);
        house.trade(1, 3, 0, 1, 100);
        house.trade(2, 3, 0, 1, 100);
        house.deposit(1, 10);
        house.deposit(2, 9);
        Check.answers("two are called", 2, house.declare());
        Check.answers("called by all of its margin", 1, house.told(0, 0));
        Check.answers("cash at its margin", 0, house.told(1, 0));
        Check.answers("called by one", 1, house.told(2, 0));
        Check.answers("a move that gains", 0, house.told(3, 0));
        Check.answers("the units stay", 1, house.position(0, 0));
        Check.answers("the cash stays", 9, house.told(2, 1));
        Check.answers("those in default do not become so again", 0, house.declare());
        house.mark(0, 99);
        Check.answers("another one", 1, house.declare());
        Check.answers("it", 1, house.told(1, 0));
        house.closeOut(0);
        house.closeOut(1);
        house.closeOut(2);
        Check.answers("those that are out do not become so again", 0, house.declare());
        Check.answers("out", 2, house.told(0, 0));
        Check.end();
    }
}
