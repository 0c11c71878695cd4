/** Promise 12: called. */
public final class CalledTest {
    public static void main(String[] args) {
        isWhatIsBelowTheMargin();
        isWhatIsBelowZeroWithoutMargin();
        isZeroForThoseThatAreNotLive();
        readsAlone();
        refusesOtherMembers();
        Check.end();
    }

    private static void isWhatIsBelowTheMargin() {
        House house = Houses.withMembers(1000, 1000);
        house.instrument(100, 0, 0);
        house.move(0, 0, -2);
        Check.answers("without positions", 0, house.called(0));
        house.trade(0, 1, 0, 5, 100);
        Check.answers("by all of its margin", 10, house.called(0));
        house.deposit(0, 9);
        Check.answers("one below its margin", 1, house.called(0));
        house.deposit(0, 1);
        Check.answers("at its margin", 0, house.called(0));
        house.deposit(0, 1);
        Check.answers("one above its margin", 0, house.called(0));
        house.mark(0, 90);
        Check.answers("by its margin and what is below 0", 10 + 39, house.called(0));
        Check.answers("one without margin", 0, house.called(1));
    }

    private static void isWhatIsBelowZeroWithoutMargin() {
        House house = Houses.withMembers(1000, 1000);
        house.instrument(100, 0, 0);
        house.trade(0, 1, 0, 5, 100);
        Check.answers("at 0", 0, house.called(0));
        house.trade(0, 1, 0, 1, 101);
        Check.answers("at -1", 1, house.called(0));
        Check.answers("at 1", 0, house.called(1));
    }

    private static void isZeroForThoseThatAreNotLive() {
        Check.answers("live", 30, Houses.withOneCalled().called(0));
        Check.answers("in default", 0, Houses.withOneInDefault().called(0));
        Check.answers("out", 0, Houses.withOneOut().called(0));
    }

    private static void readsAlone() {
        Twins.answers(Houses::withOneCalled, "called(0)", 30, house -> house.called(0));
        Twins.answers(Houses::withOneInDefault, "called(0)", 0, house -> house.called(0));
    }

    private static void refusesOtherMembers() {
        for (int wrong : Edges.noMember(3)) {
            Twins.argument(Houses::withOneCalled, "called(" + wrong + ")", house -> house.called(wrong));
        }
        for (int wrong : Edges.noMember(8)) {
            Twins.argument(Houses::full, "called(" + wrong + ")", house -> house.called(wrong));
        }
        Twins.answers(Houses::full, "called(7)", 0, house -> house.called(7));
    }
}
