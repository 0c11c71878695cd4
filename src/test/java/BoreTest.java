/** Promise 17: bore. */
public final class BoreTest {
    public static void main(String[] args) {
        tellsOfTheLastClosingOut();
        isZeroWhenNothingWasMissing();
        staysWhenAClosingOutIsRefused();
        readsAlone();
        refusesOtherLayers();
        Check.end();
    }

    /** Members 0 and 1 are in default and lack 20 and 2; 0's closing out would reach all layers. */
    private static House twoInDefault() {
        House house = Houses.withMembers(1, 2, 4, 0);
        house.instrument(0, 0, 0);
        house.capital(5);
        house.deposit(2, 3);
        house.trade(0, 3, 0, 1, 20);
        house.trade(1, 3, 0, 1, 2);
        house.declare();
        return house;
    }

    private static House oneClosedOut() {
        House house = twoInDefault();
        Check.answers("closeOut(0)", 7, house.closeOut(0));
        return house;
    }

    private static void tellsOfTheLastClosingOut() {
        Check.bore("none was closed out", twoInDefault(), 0, 0, 0, 0, 0);
        House house = oneClosedOut();
        Check.bore("one was closed out", house, 1, 5, 4, 3, 7);
        house.deposit(2, 1);
        house.capital(100);
        house.mark(0, 1);
        Check.bore("other calls change nothing of it", house, 1, 5, 4, 3, 7);
        Check.answers("closeOut(1)", 0, house.closeOut(1));
        Check.bore("of the last one alone", house, 1, 0, 0, 0, 0);
    }

    private static void isZeroWhenNothingWasMissing() {
        House house = oneClosedOut();
        house.mark(0, 2);
        Check.answers("its cash is 0 now", 0, house.told(1, 1));
        Check.answers("closeOut(1)", 0, house.closeOut(1));
        Check.bore("when nothing was missing", house, 0, 0, 0, 0, 0);
    }

    private static void staysWhenAClosingOutIsRefused() {
        Twins.state(BoreTest::oneClosedOut, "one that is out", house -> house.closeOut(0));
        Twins.state(BoreTest::oneClosedOut, "one that is live", house -> house.closeOut(2));
        Twins.argument(BoreTest::oneClosedOut, "one that is not there", house -> house.closeOut(4));
        Twins.none(BoreTest::withoutTaker, "one without a taker", house -> house.closeOut(1));
        House house = withoutTaker();
        house.closeOut(1);
        Check.bore("one without a taker", house, 1, 5, 4, 3, 7);
    }

    private static House withoutTaker() {
        House house = oneClosedOut();
        house.move(0, 0, -1000000);
        house.move(1, 0, 1000000);
        house.trade(2, 3, 0, 1, 0);
        Check.answers("2 and 3 are called", 2, house.declare());
        return house;
    }

    private static void readsAlone() {
        long[] due = {1, 5, 4, 3, 7};
        for (int n = 0; n <= 4; n++) {
            int layer = n;
            Twins.answers(BoreTest::oneClosedOut, "bore(" + layer + ")", due[layer], house -> house.bore(layer));
        }
    }

    private static void refusesOtherLayers() {
        for (int wrong : Edges.outside(0, 4)) {
            Twins.argument(House::new, "bore(" + wrong + ") at first", house -> house.bore(wrong));
            Twins.argument(BoreTest::oneClosedOut, "bore(" + wrong + ")", house -> house.bore(wrong));
        }
    }
}
