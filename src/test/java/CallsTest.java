/** What it is: an object is used for at most 512 calls. What is promised holds up to the last of them. */
public final class CallsTest {
    public static void main(String[] args) {
        tradesToTheLastCall();
        refusesToTheLastCall();
        closesOutByTheLastCall();
        Check.end();
    }

    private static void tradesToTheLastCall() {
        House house = Houses.withMembers(0, 0);
        house.instrument(1, 0, 0);
        for (int n = 1; n <= House.MOST_CALLS - 3; n++) {
            Check.answers("trade", n, house.trade(n % 2, 1 - n % 2, 0, 1, 1));
        }
        Check.answers("calls", House.MOST_CALLS, house.calls());
    }

    private static void refusesToTheLastCall() {
        House house = Houses.eightMembers();
        while (house.calls() < House.MOST_CALLS - 2) {
            Check.answers("a ninth member", -1, house.member(1));
        }
        Check.same("a wrong one", "throws IllegalArgumentException", Probe.outcome(() -> house.member(-1)));
        Check.answers("the last member", 80, house.told(7, 2));
        Check.answers("calls", House.MOST_CALLS, house.calls());
    }

    private static void closesOutByTheLastCall() {
        House house = Houses.withMembers(1, 0, 2);
        house.instrument(0, 0, 0);
        house.trade(0, 1, 0, 1, 9);
        house.declare();
        while (house.calls() < House.MOST_CALLS - 1) {
            house.capital(0);
        }
        Check.answers("closeOut(0)", 6, house.closeOut(0));
        Check.answers("calls", House.MOST_CALLS, house.calls());
    }
}
