/** Promise 13: declare. */
public final class DeclareTest {
    public static void main(String[] args) {
        answersZeroWhenNobodyIsCalled();
        takesThoseBelowTheirMargin();
        takesAllEight();
        takesNobodyTwice();
        changesNothingElse();
        Check.end();
    }

    private static void answersZeroWhenNobodyIsCalled() {
        Twins.answers(House::new, "declare without members", 0, House::declare);
        Twins.answers(Houses::full, "declare when nobody is called", 0, House::declare);
        Twins.answers(DeclareTest::allAtTheirMargins, "declare when all are at their margins", 0, House::declare);
    }

    /** Eight members with one unit each, bought or sold, and cash of their margin, which is 10. */
    private static House allAtTheirMargins() {
        House house = allCalled();
        for (int m = 0; m <= 7; m++) {
            house.deposit(m, 10);
        }
        return house;
    }

    private static House allCalled() {
        House house = Houses.full();
        house.move(0, 0, -10);
        house.move(1, 0, 10);
        for (int m = 0; m <= 6; m += 2) {
            house.trade(m, m + 1, 0, 1, 100);
        }
        return house;
    }

    private static void takesThoseBelowTheirMargin() {
        House house = Houses.withMembers(1, 1, 1, 1);
        house.instrument(100, 0, 0);
        house.move(0, 0, -10);
        for (int m = 0; m <= 2; m++) {
            house.trade(m, 3, 0, 1, 100);
            house.deposit(m, 9 + m);
        }
        Check.answers("one is called", 1, house.declare());
        Check.answers("one below its margin", 1, house.told(0, 0));
        Check.answers("at its margin", 0, house.told(1, 0));
        Check.answers("one above its margin", 0, house.told(2, 0));
        Check.answers("without margin", 0, house.told(3, 0));
        house.mark(0, 99);
        Check.answers("another one", 1, house.declare());
        Check.answers("that was at its margin", 1, house.told(1, 0));
        Check.answers("now at its margin", 0, house.told(2, 0));
    }

    private static void takesAllEight() {
        House house = allCalled();
        Check.answers("all are called", 8, house.declare());
        for (int m = 0; m <= 7; m++) {
            Check.told("all are called", house, m, 1, 0, 10 * m + 10);
        }
        Check.answers("none is left", 0, house.declare());
    }

    private static void takesNobodyTwice() {
        Twins.answers(Houses::withOneInDefault, "one in default", 0, House::declare);
        Twins.answers(DeclareTest::oneOutAndNobodyCalled, "one that is out", 0, House::declare);
        House house = oneOutAndNobodyCalled();
        Check.answers("declare", 0, house.declare());
        Check.answers("it is out still", 2, house.told(0, 0));
    }

    private static House oneOutAndNobodyCalled() {
        House house = Houses.withOneOut();
        house.deposit(1, house.called(1));
        return house;
    }

    private static void changesNothingElse() {
        House house = Houses.withOneCalled();
        Check.answers("declare", 1, house.declare());
        Check.told("in default", house, 0, 1, 50, 10);
        Check.answers("its units stay", 4, house.position(0, 0));
        Check.answers("all cash", 50, house.all(2));
        Check.answers("all contributions", 60, house.all(3));
        Check.answers("trades", 2, house.all(4));
        Check.answers("units open", 8, house.all(5));
    }
}
