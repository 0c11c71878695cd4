/** Promise 14: closeOut, and what Terms say of closing out. */
public final class CloseOutTest {
    private static final int MILLION = Edges.MILLION;

    public static void main(String[] args) {
        keepsWhatIsLeft();
        paysNobodyWithoutPositions();
        asksTheLeastBidderOfTheLive();
        asksTheLeastNumberOfEqualBidders();
        paysForUnitsWithoutSign();
        paysGreatBids();
        paysTheGreatestBidsForAllInstruments();
        givesEachInstrumentToItsOwnTaker();
        goesLayerByLayer();
        leavesOutLayersThatHoldNothing();
        callsAtMostWhatWasContributed();
        callsCashAfterTheBids();
        callsNoCashBelowZero();
        addsUpLosses();
        needsALiveTaker();
        needsNoTakerWithoutPositions();
        keepsWhatIsBoughtWithinAMillion();
        keepsWhatIsSoldWithinAMillion();
        takesBackWhatItIsShortOf();
        refusesOtherMembers();
        refusesThoseThatAreNotInDefault();
        Check.end();
    }

    /** Member 0 is in default with one unit and 50 in cash; the one that asks least asks so much. */
    private static House askedFor(int bid) {
        House house = Houses.withMembers(10, 20, 30);
        house.instrument(100, 0, 0);
        house.move(0, 0, -60);
        house.capital(5);
        house.deposit(0, 50);
        house.trade(0, 1, 0, 1, 100);
        house.declare();
        house.bid(1, 0, bid);
        house.bid(2, 0, bid + 1);
        return house;
    }

    private static void keepsWhatIsLeft() {
        House house = askedFor(49);
        Check.answers("one is left", 0, house.closeOut(0));
        Check.told("one is left", house, 0, 2, 1, 10);
        Check.told("the taker", house, 1, 0, 49, 20);
        Check.answers("its position", 0, house.position(0, 0));
        Check.bore("one is left", house, 0, 0, 0, 0, 0);
        house = askedFor(50);
        Check.answers("nothing is left, nothing is missing", 0, house.closeOut(0));
        Check.told("nothing is left, nothing is missing", house, 0, 2, 0, 10);
        Check.bore("nothing is left, nothing is missing", house, 0, 0, 0, 0, 0);
        house = askedFor(51);
        Check.answers("one is missing", 0, house.closeOut(0));
        Check.told("one is missing", house, 0, 2, 0, 9);
        Check.bore("one is missing", house, 1, 0, 0, 0, 0);
        Check.answers("the capital", 5, house.all(0));
        Check.answers("all contributions", 59, house.all(3));
    }

    private static void paysNobodyWithoutPositions() {
        House house = Houses.withMembers(10, 20, 30);
        house.instrument(100, 0, 0);
        house.instrument(100, 0, 0);
        for (int m = 0; m <= 2; m++) {
            house.bid(m, 0, 7);
            house.bid(m, 1, 9);
        }
        house.trade(0, 1, 0, 3, 101);
        house.trade(1, 0, 0, 3, 100);
        house.declare();
        Check.answers("closeOut(0)", 0, house.closeOut(0));
        Check.told("it lacked 3", house, 0, 2, 0, 7);
        Check.told("nobody got a bid", house, 1, 0, 3, 20);
        Check.told("nobody got a bid", house, 2, 0, 0, 30);
        Check.answers("nobody got a unit", 0, house.all(5));
    }

    private static void asksTheLeastBidderOfTheLive() {
        House house = Houses.withMembers(0, 0, 0, 0, 0);
        house.instrument(100, 0, 0);
        house.move(0, 0, -50);
        house.trade(0, 4, 0, 2, 100);
        house.trade(1, 4, 0, 2, 100);
        Check.answers("0 and 1 are in default", 2, house.declare());
        house.bid(0, 0, 0);
        house.bid(1, 0, 0);
        house.bid(2, 0, 7);
        house.bid(3, 0, 6);
        house.bid(4, 0, 7);
        Check.answers("closeOut(1)", 12, house.closeOut(1));
        Check.answers("neither itself nor another one in default", 2, house.position(3, 0));
        Check.told("it got what it asked", house, 3, 0, 12, 0);
        house.bid(4, 0, 5);
        Check.answers("closeOut(0)", 10, house.closeOut(0));
        Check.answers("not one that is out", 0, house.position(1, 0));
        Check.answers("who asks least by now", -2, house.position(4, 0));
        Check.told("it got what it asked", house, 4, 0, 10, 0);
    }

    private static void asksTheLeastNumberOfEqualBidders() {
        for (int defaulter = 0; defaulter <= 7; defaulter++) {
            House house = Houses.full();
            int seller = defaulter == 7 ? 6 : 7;
            house.trade(defaulter, seller, 5, 3, 101);
            Check.answers("declare", 1, house.declare());
            for (int m = 0; m <= 7; m++) {
                house.bid(m, 5, m == 0 || m == 3 ? 2 : 1);
            }
            int taker = defaulter == 1 ? 2 : 1;
            house.closeOut(defaulter);
            Check.answers("the first that asks least", 3, house.position(taker, 5));
            Check.answers("for three units", 3, house.told(taker, 1));
            Check.answers("units open", 3, house.all(5));
        }
    }

    private static void paysForUnitsWithoutSign() {
        House house = Houses.withMembers(0, 0);
        house.instrument(100, 0, 0);
        house.move(0, 0, 50);
        house.deposit(1, 60);
        house.trade(0, 1, 0, 3, 100);
        house.declare();
        house.bid(0, 0, 11);
        Check.answers("closeOut(1)", 0, house.closeOut(1));
        Check.answers("the taker's cash", 33, house.told(0, 1));
        Check.answers("the defaulter's cash", 27, house.told(1, 1));
        Check.answers("the taker's units", 0, house.position(0, 0));
        Check.answers("units open", 0, house.all(5));
    }

    private static void paysGreatBids() {
        House house = Houses.withMembers(0, 0);
        house.instrument(100, MILLION, 0);
        Houses.tradeMany(house, 1, 0, 0, MILLION, 100);
        house.move(0, 0, -1);
        house.declare();
        house.bid(0, 0, MILLION);
        Check.answers("closeOut(1)", Edges.MOST_PAID, house.closeOut(1));
        Check.answers("the taker's cash", Edges.MOST_PAID, house.told(0, 1));
        Check.answers("losses", Edges.MOST_PAID, house.all(1));
    }

    /** The dearest closing out that there can be: a million units of each instrument at a million each. */
    private static void paysTheGreatestBidsForAllInstruments() {
        long most = Edges.MOST_PAID;
        House house = Houses.withMembers(most, 1, 2, 0);
        Houses.addSixInstruments(house);
        house.capital(most);
        for (int i = 0; i <= 5; i++) {
            Houses.tradeMany(house, 3, 0, i, MILLION, 100);
            house.move(0, i, 1);
            for (int m = 1; m <= 3; m++) {
                house.bid(m, i, MILLION);
            }
        }
        Check.answers("0 is called", 1, house.declare());
        Check.answers("closeOut(0)", 4 * most - 3 - 1, house.closeOut(0));
        Check.bore("six times 10^12", house, most, most, 3, 1, 4 * most - 4);
        Check.told("the taker gave and was called for 1", house, 1, 0, 6 * most - 1, 0);
        Check.told("one without cash gave 2", house, 2, 0, 0, 0);
        Check.answers("units open", 6L * MILLION, house.all(5));
    }

    private static void givesEachInstrumentToItsOwnTaker() {
        House house = Houses.withMembers(0, 0, 0);
        for (int i = 0; i <= 5; i++) {
            house.instrument(100, 1000, 0);
            house.trade(i % 2 == 0 ? 0 : 2, i % 2 == 0 ? 2 : 0, i, i + 1, 100);
            house.bid(1, i, i < 3 ? 1 : 2);
            house.bid(2, i, i < 3 ? 2 : 1);
        }
        house.move(0, 0, -1);
        house.declare();
        Check.answers("closeOut(0)", 21, house.closeOut(0));
        for (int i = 0; i <= 5; i++) {
            int sign = i % 2 == 0 ? 1 : -1;
            Check.answers("units of 0", 0, house.position(0, i));
            Check.answers("units of 1", i < 3 ? sign * (i + 1) : 0, house.position(1, i));
            Check.answers("units of 2", i < 3 ? -sign * (i + 1) : 0, house.position(2, i));
        }
        Check.answers("1 asked 1 for six units", 6, house.told(1, 1));
        Check.answers("2 asked 1 for fifteen units", 15, house.told(2, 1));
    }

    /** Member 0 misses so much; the house has 15, the others 30, 20 and 0 in the fund and 25, 50 and much cash. */
    private static House missing(int missing) {
        House house = Houses.withMembers(10, 30, 20, 0);
        house.instrument(0, 0, 0);
        house.capital(15);
        house.deposit(1, 25);
        house.deposit(2, 50);
        house.trade(0, 3, 0, 1, missing);
        house.declare();
        return house;
    }

    private static void layers(int missing, long[] bore, long[] contributions, long[] cash, long capital) {
        House house = missing(missing);
        String name = "missing " + missing;
        Check.answers(name + ": closeOut(0)", bore[4], house.closeOut(0));
        Check.bore(name, house, bore);
        for (int m = 0; m < 3; m++) {
            Check.told(name, house, m, m == 0 ? 2 : 0, cash[m], contributions[m]);
        }
        Check.told(name, house, 3, 0, missing, 0);
        Check.answers(name + ": capital", capital, house.all(0));
        Check.answers(name + ": losses", bore[4], house.all(1));
    }

    private static void goesLayerByLayer() {
        layers(1, row(1, 0, 0, 0, 0), row(9, 30, 20), row(0, 25, 50), 15);
        layers(9, row(9, 0, 0, 0, 0), row(1, 30, 20), row(0, 25, 50), 15);
        layers(10, row(10, 0, 0, 0, 0), row(0, 30, 20), row(0, 25, 50), 15);
        layers(11, row(10, 1, 0, 0, 0), row(0, 30, 20), row(0, 25, 50), 14);
        layers(24, row(10, 14, 0, 0, 0), row(0, 30, 20), row(0, 25, 50), 1);
        layers(25, row(10, 15, 0, 0, 0), row(0, 30, 20), row(0, 25, 50), 0);
        layers(26, row(10, 15, 1, 0, 0), row(0, 29, 20), row(0, 25, 50), 0);
        layers(35, row(10, 15, 10, 0, 0), row(0, 24, 16), row(0, 25, 50), 0);
        // 49 of 30 and 20 are 29.4 and 19.6
        layers(74, row(10, 15, 49, 0, 0), row(0, 1, 0), row(0, 25, 50), 0);
        layers(75, row(10, 15, 50, 0, 0), row(0, 0, 0), row(0, 25, 50), 0);
        layers(76, row(10, 15, 50, 1, 0), row(0, 0, 0), row(0, 24, 50), 0);
        layers(84, row(10, 15, 50, 9, 0), row(0, 0, 0), row(0, 20, 46), 0);
        // 44 of 25 and 20 are 24.4 and 19.6
        layers(119, row(10, 15, 50, 44, 0), row(0, 0, 0), row(0, 1, 30), 0);
        layers(120, row(10, 15, 50, 45, 0), row(0, 0, 0), row(0, 0, 30), 0);
        layers(121, row(10, 15, 50, 45, 1), row(0, 0, 0), row(0, 0, 30), 0);
        layers(MILLION, row(10, 15, 50, 45, 999880), row(0, 0, 0), row(0, 0, 30), 0);
    }

    private static void leavesOutLayersThatHoldNothing() {
        House house = Houses.withMembers(0, 6, 0);
        house.instrument(0, 0, 0);
        house.deposit(1, 4);
        house.trade(0, 2, 0, 1, 15);
        house.declare();
        Check.answers("closeOut(0)", 5, house.closeOut(0));
        Check.bore("neither its own contribution nor capital", house, 0, 0, 6, 4, 5);
        house.member(0);
        house.deposit(1, 100);
        house.trade(3, 2, 0, 1, 9);
        house.declare();
        Check.answers("closeOut(3)", 9, house.closeOut(3));
        Check.bore("nobody has a contribution, so nobody is called", house, 0, 0, 0, 0, 9);
        Check.answers("losses", 14, house.all(1));
    }

    /** What is called of one that contributed 10 and has so much cash, when more is missing than can be borne. */
    private static long calledOf(long cash) {
        House house = Houses.withMembers(0, 10, 0);
        house.instrument(0, 0, 0);
        if (cash > 0) {
            house.deposit(1, cash);
        }
        house.trade(0, 2, 0, 1, 1000);
        house.declare();
        house.closeOut(0);
        Check.answers("cash that it keeps", cash - house.bore(3), house.told(1, 1));
        Check.answers("its contribution", 0, house.told(1, 2));
        Check.answers("loss", 990 - house.bore(3), house.bore(4));
        return house.bore(3);
    }

    private static void callsAtMostWhatWasContributed() {
        Check.answers("called of 0", 0, calledOf(0));
        Check.answers("called of 1", 1, calledOf(1));
        Check.answers("called of 9", 9, calledOf(9));
        Check.answers("called of 10", 10, calledOf(10));
        Check.answers("called of 11", 10, calledOf(11));
        Check.answers("called of very much", 10, calledOf(Edges.MOST_PAID));
    }

    private static void callsCashAfterTheBids() {
        House house = Houses.withMembers(0, 100);
        house.instrument(100, 0, 0);
        house.move(0, 0, -1);
        house.trade(0, 1, 0, 5, 100);
        house.declare();
        house.bid(1, 0, 30);
        Check.answers("closeOut(0)", 0, house.closeOut(0));
        Check.bore("150 were missing", house, 0, 0, 100, 50, 0);
        Check.told("cash came by the bid and went by the call", house, 1, 0, 100, 0);
    }

    private static void callsNoCashBelowZero() {
        House house = Houses.withMembers(0, 10, 10, 0);
        house.instrument(100, 0, 0);
        house.instrument(100, 0, 0);
        house.deposit(2, 4);
        house.trade(0, 3, 0, 1, 150);
        house.declare();
        house.trade(1, 3, 1, 1, 103);
        Check.answers("closeOut(0)", 50 - 20 - 4, house.closeOut(0));
        Check.bore("50 were missing", house, 0, 0, 20, 4, 26);
        Check.told("1 has what it had, and is live", house, 1, 0, -3, 0);
        Check.told("2 gave all it had", house, 2, 0, 0, 0);
    }

    private static void addsUpLosses() {
        House house = Houses.withMembers(0, 0, 0);
        house.instrument(0, 0, 0);
        house.trade(0, 2, 0, 1, 30);
        house.trade(1, 2, 0, 1, 12);
        house.declare();
        Check.answers("closeOut(0)", 30, house.closeOut(0));
        Check.answers("closeOut(1): its own loss alone", 12, house.closeOut(1));
        Check.answers("losses", 42, house.all(1));
        Check.bore("the second one", house, 0, 0, 0, 0, 12);
    }

    /** Members 0 and 1 have one unit each way and no cash, member 2 has no units and lacks 10; all are in default. */
    private static House withoutLiveOnes() {
        House house = Houses.withMembers(0, 0, 3);
        house.instrument(0, 0, 0);
        house.move(0, 0, -1);
        house.move(1, 0, 1);
        house.capital(2);
        house.trade(2, 0, 0, 1, 10);
        house.trade(0, 2, 0, 1, 0);
        house.withdraw(0, 10);
        house.trade(0, 1, 0, 1, 0);
        Check.answers("all are in default", 3, house.declare());
        return house;
    }

    private static void needsALiveTaker() {
        Twins.none(CloseOutTest::withoutLiveOnes, "nobody takes what it bought", house -> house.closeOut(0));
        Twins.none(CloseOutTest::withoutLiveOnes, "nobody takes what it sold", house -> house.closeOut(1));
        Twins.none(CloseOutTest::withOneOutAndNoneLive, "nor one that is out", house -> house.closeOut(0));
        House house = withoutLiveOnes();
        Check.answers("a new member", 3, house.member(0));
        Check.answers("closeOut(0) then", 0, house.closeOut(0));
        Check.answers("it took the unit", 1, house.position(3, 0));
        Check.answers("closeOut(1) then", 0, house.closeOut(1));
        Check.answers("it took that unit too", 0, house.position(3, 0));
    }

    private static House withOneOutAndNoneLive() {
        House house = withoutLiveOnes();
        house.closeOut(2);
        return house;
    }

    private static void needsNoTakerWithoutPositions() {
        House house = withoutLiveOnes();
        Check.answers("closeOut(2)", 5, house.closeOut(2));
        Check.bore("nobody is live to bear it", house, 3, 2, 0, 0, 5);
        Check.told("closed out", house, 2, 2, 0, 0);
        Check.told("in default: it bore nothing", house, 0, 1, 0, 0);
        Check.answers("losses", 5, house.all(1));
    }

    /**
     * Member 0 is in default with one unit of instrument 0 and two of instrument 1; member 1, that asks least for
     * both, has bought so many of instrument 1.
     */
    private static House takerHasBought(int units) {
        House house = Houses.withMembers(5, 5, 5, 5);
        house.instrument(100, MILLION, 0);
        house.instrument(100, MILLION, 0);
        Houses.tradeMany(house, 1, 3, 1, units, 100);
        house.trade(0, 3, 0, 1, 100);
        house.trade(0, 2, 1, 2, 101);
        for (int m = 2; m <= 3; m++) {
            house.bid(m, 0, 1);
            house.bid(m, 1, 1);
        }
        Check.answers("0 is in default", 1, house.declare());
        return house;
    }

    private static void keepsWhatIsBoughtWithinAMillion() {
        House house = takerHasBought(999_998);
        Check.answers("to a million", 0, house.closeOut(0));
        Check.answers("to a million", MILLION, house.position(1, 1));
        Check.answers("the other instrument", 1, house.position(1, 0));
        Twins.none(() -> takerHasBought(999_999), "one beyond", full -> full.closeOut(0));
        Twins.none(() -> takerHasBought(MILLION), "two beyond", full -> full.closeOut(0));
        House later = takerHasBought(MILLION);
        Check.answers("beyond", -1, later.closeOut(0));
        later.bid(1, 1, 2);
        Check.answers("by another one's bid then", 0, later.closeOut(0));
        Check.answers("who took it", 0, later.position(2, 1));
    }

    /** Member 0 is in default with one unit sold, and member 1, that asks least, has sold so many. */
    private static House takerHasSold(int units) {
        House house = Houses.withMembers(5, 5, 5, 5);
        house.instrument(100, MILLION, 0);
        Houses.tradeMany(house, 2, 1, 0, units, 100);
        house.trade(3, 0, 0, 1, 99);
        house.bid(2, 0, 1);
        house.bid(3, 0, 1);
        Check.answers("0 is in default", 1, house.declare());
        return house;
    }

    private static void keepsWhatIsSoldWithinAMillion() {
        House house = takerHasSold(999_999);
        Check.answers("to a million sold", 0, house.closeOut(0));
        Check.answers("to a million sold", -MILLION, house.position(1, 0));
        Twins.none(() -> takerHasSold(MILLION), "one beyond", full -> full.closeOut(0));
    }

    private static void takesBackWhatItIsShortOf() {
        House house = Houses.withMembers(5, 5);
        house.instrument(100, MILLION, 0);
        Houses.tradeMany(house, 0, 1, 0, MILLION, 100);
        house.mark(0, 99);
        Check.answers("0 is in default", 1, house.declare());
        Check.answers("a million to one with a million sold", MILLION - 10 - 5, house.closeOut(0));
        Check.answers("its units", 0, house.position(1, 0));
    }

    private static void refusesOtherMembers() {
        for (int wrong : Edges.noMember(4)) {
            Twins.argument(() -> missing(50), "closeOut(" + wrong + ")", house -> house.closeOut(wrong));
        }
        for (int wrong : Edges.noMember(8)) {
            Twins.argument(Houses::full, "closeOut(" + wrong + ")", house -> house.closeOut(wrong));
        }
    }

    private static House oneLiveAlone() {
        House house = withoutLiveOnes();
        house.member(0);
        return house;
    }

    private static void refusesThoseThatAreNotInDefault() {
        Twins.state(() -> missing(50), "a live one", house -> house.closeOut(1));
        Twins.state(Houses::withOneCalled, "one that is called, but live", house -> house.closeOut(0));
        Twins.state(Houses::withOneOut, "one that is out", house -> house.closeOut(0));
        Twins.state(CloseOutTest::withOneOutAndNoneLive, "out, and nobody live", house -> house.closeOut(2));
        Twins.state(CloseOutTest::oneLiveAlone, "the only live one", house -> house.closeOut(3));
        Twins.state(Houses::full, "the last one, live", house -> house.closeOut(7));
    }

    private static long[] row(long... values) {
        return values;
    }
}
