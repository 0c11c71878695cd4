/** Promise 2: member. */
public final class MemberTest {
    public static void main(String[] args) {
        numbersAsTheyCome();
        takesTheEdges();
        refusesWrongContributions();
        Check.end();
    }

    private static void numbersAsTheyCome() {
        MarginHouse house = new MarginHouse();
        for (int m = 0; m < 8; m++) {
            Check.answers("member", m, house.member(m * 11L));
            Check.answers("live", 0, house.told(m, 0));
            Check.answers("without cash", 0, house.told(m, 1));
            Check.answers("its contribution", m * 11L, house.told(m, 2));
        }
        Check.noneLeaves(house, "a ninth member", () -> house.member(1));
        Check.argumentLeaves(house, "a ninth one with a wrong contribution", () -> house.member(-1));
    }

    private static void takesTheEdges() {
        MarginHouse house = new MarginHouse();
        Check.answers("member(0)", 0, house.member(0));
        Check.answers("member(10^12)", 1, house.member(Houses.MOST_PAID));
        Check.answers("contribution", Houses.MOST_PAID, house.told(1, 2));
    }

    private static void refusesWrongContributions() {
        MarginHouse house = new MarginHouse();
        for (long wrong : new long[] {-1, Houses.MOST_PAID + 1, Long.MIN_VALUE, Long.MAX_VALUE}) {
            Check.argumentLeaves(house, "member(" + wrong + ")", () -> house.member(wrong));
        }
        Check.answers("the first one after refused ones", 0, house.member(5));
    }
}
