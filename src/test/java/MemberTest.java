/** Promise 2: member. */
public final class MemberTest {
    public static void main(String[] args) {
        numbersEightAsTheyCome();
        answersNoneWhenThereAreEight();
        countsThoseThatAreOut();
        takesFromZeroToTheMost();
        refusesOtherContributions();
        comesLiveAndWithoutAnything();
        Check.end();
    }

    private static House sevenMembers() {
        return Houses.withMembers(10, 20, 30, 40, 50, 60, 70);
    }

    private static void numbersEightAsTheyCome() {
        House house = new House();
        for (int m = 0; m <= 7; m++) {
            Check.answers("member", m, house.member(m * 11L));
            Check.told("a new one", house, m, 0, 0, m * 11L);
            Check.answers("all contributions", m * (m + 1) / 2 * 11L, house.all(3));
        }
    }

    private static void answersNoneWhenThereAreEight() {
        for (long contribution : new long[] {0, 1, Edges.MOST_PAID}) {
            Twins.none(Houses::eightMembers, "a ninth one", house -> house.member(contribution));
        }
        for (long wrong : Edges.outside(0, Edges.MOST_PAID)) {
            Twins.argument(Houses::eightMembers, "a ninth one with " + wrong, house -> house.member(wrong));
        }
    }

    private static House eightOfWhichOneIsOut() {
        House house = Houses.withOneOut();
        for (int m = 3; m <= 7; m++) {
            Check.answers("member", m, house.member(m));
        }
        return house;
    }

    private static void countsThoseThatAreOut() {
        Check.answers("0 is out", 2, eightOfWhichOneIsOut().told(0, 0));
        Twins.none(MemberTest::eightOfWhichOneIsOut, "a ninth one", house -> house.member(1));
    }

    private static void takesFromZeroToTheMost() {
        House house = new House();
        int number = 0;
        for (long contribution : new long[] {0, 1, Edges.MOST_PAID - 1, Edges.MOST_PAID}) {
            Check.answers("member(" + contribution + ")", number, house.member(contribution));
            Check.told("member(" + contribution + ")", house, number, 0, 0, contribution);
            number++;
        }
    }

    private static void refusesOtherContributions() {
        for (long wrong : Edges.outside(0, Edges.MOST_PAID)) {
            Twins.argument(House::new, "member(" + wrong + ")", house -> house.member(wrong));
            Twins.argument(MemberTest::sevenMembers, "an eighth with " + wrong, house -> house.member(wrong));
        }
    }

    private static void comesLiveAndWithoutAnything() {
        House house = Houses.withOneInDefault();
        Check.answers("member", 3, house.member(9));
        Check.told("one that comes late", house, 3, 0, 0, 9);
        Check.answers("its margin", 0, house.margin(3));
        Check.answers("called", 0, house.called(3));
        Check.answers("its units", 0, house.position(3, 0));
        house.bid(1, 0, 1);
        house.bid(2, 0, 1);
        house.closeOut(0);
        Check.answers("it asked 0 and took", 4, house.position(3, 0));
        Check.answers("for nothing", 0, house.told(3, 1));
    }
}
