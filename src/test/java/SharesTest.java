import java.math.BigInteger;
import java.util.Arrays;

/** Terms: shares of an amount by weights, as layers 2 and 3 of a closing out take them. */
public final class SharesTest {
    public static void main(String[] args) {
        equalWeightsFavourTheLeastNumber();
        greatestRemaindersComeFirst();
        nothingIsLeftOver();
        weightsTogetherAreTheAmount();
        weightsOfZeroBearNothing();
        oneBearsAll();
        onlyLiveOnesBear();
        onlyLiveOnesAreCalled();
        membersAheadOfTheDefaulterBear();
        allAroundTheDefaulterBear();
        productsBeyondALong();
        callsAreSharedByWhatCanBeCalled();
        Check.end();
    }

    /**
     * A house of which member 0 lacks the amount and member 1, without contribution, has it; the others follow
     * with the contributions given, and member 0 has neither contribution nor positions.
     */
    private static House missing(long amount, long... contributions) {
        House house = Houses.withMembers(0, 0);
        for (long contribution : contributions) {
            house.member(contribution);
        }
        house.instrument(0, 1000000, 0);
        for (long left = amount / 100_000_000_000L; left > 0; left--) {
            payAndTradeBack(house, 100_000, 1_000_000);
        }
        long rest = amount % 100_000_000_000L;
        if (rest >= 100_000) {
            payAndTradeBack(house, 100_000, (int) (rest / 100_000));
        }
        if (rest % 100_000 > 0) {
            payAndTradeBack(house, 1, (int) (rest % 100_000));
        }
        Check.answers("cash of 0", -amount, house.told(0, 1));
        house.declare();
        return house;
    }

    private static void payAndTradeBack(House house, int units, int price) {
        house.trade(0, 1, 0, units, price);
        house.trade(1, 0, 0, units, 0);
    }

    /** The shares by contributions, in layer 2, and the same by what can be called, in layer 3. */
    private static void bears(long amount, long[] weights, long[] due) {
        bearsByContributions(amount, weights, due);
        bearsByCalls(amount, weights, due);
    }

    private static void bearsByContributions(long amount, long[] weights, long[] due) {
        House house = missing(amount, weights);
        Check.answers("closeOut(0) of " + amount, 0, house.closeOut(0));
        Check.bore("of " + amount, house, 0, 0, amount, 0, 0);
        for (int n = 0; n < weights.length; n++) {
            Check.told(name(amount, weights), house, n + 2, 0, 0, weights[n] - due[n]);
        }
    }

    private static void bearsByCalls(long amount, long[] weights, long[] due) {
        long together = Arrays.stream(weights).sum();
        House house = missing(together + amount, weights);
        for (int n = 0; n < weights.length; n++) {
            if (weights[n] > 0) {
                house.deposit(n + 2, weights[n]);
            }
        }
        Check.answers("closeOut(0) of " + amount + " more", 0, house.closeOut(0));
        Check.bore("of " + amount + " more", house, 0, 0, together, amount, 0);
        for (int n = 0; n < weights.length; n++) {
            Check.told(name(amount, weights) + " called", house, n + 2, 0, weights[n] - due[n], 0);
        }
    }

    private static String name(long amount, long[] weights) {
        return amount + " by " + Arrays.toString(weights);
    }

    private static void equalWeightsFavourTheLeastNumber() {
        bears(1, row(10, 10, 10), row(1, 0, 0));
        bears(2, row(10, 10, 10), row(1, 1, 0));
        bears(10, row(10, 10, 10), row(4, 3, 3));
        bears(11, row(10, 10, 10), row(4, 4, 3));
        bears(29, row(10, 10, 10), row(10, 10, 9));
        bears(1, row(1, 1, 1, 1, 1, 1), row(1, 0, 0, 0, 0, 0));
        bears(5, row(1, 1, 1, 1, 1, 1), row(1, 1, 1, 1, 1, 0));
    }

    private static void greatestRemaindersComeFirst() {
        // 12/15, 20/15 and 28/15: 0 and 12 left, 1 and 5 left, 1 and 13 left
        bears(4, row(3, 5, 7), row(1, 1, 2));
        // 3/15, 5/15 and 7/15
        bears(1, row(3, 5, 7), row(0, 0, 1));
        bears(1, row(7, 5, 3), row(1, 0, 0));
        bears(1, row(5, 7, 3), row(0, 1, 0));
        // 14/20, 14/20, 12/20: equal ones by number, the third gets none
        bears(2, row(7, 7, 6), row(1, 1, 0));
        // 6/20, 7/20, 7/20
        bears(1, row(6, 7, 7), row(0, 1, 0));
        // 12/20, 14/20, 14/20
        bears(2, row(6, 7, 7), row(0, 1, 1));
        // 99/101, 1/101 and 1/101
        bears(1, row(99, 1, 1), row(1, 0, 0));
        // 9900/101, 100/101 and 100/101: the least shares leave the greatest remainders
        bears(100, row(99, 1, 1), row(98, 1, 1));
    }

    private static void nothingIsLeftOver() {
        bears(12, row(10, 10, 10), row(4, 4, 4));
        bears(5, row(2, 6, 2), row(1, 3, 1));
        // 9/15, 15/15 and 21/15 leave 9, 0 and 6: the second gets no more
        bears(3, row(3, 5, 7), row(1, 1, 1));
    }

    private static void weightsTogetherAreTheAmount() {
        bears(14, row(3, 5, 7), row(3, 5, 6));
        bears(15, row(3, 5, 7), row(3, 5, 7));
        House house = missing(16, 3, 5, 7);
        Check.answers("weights are less by one", 1, house.closeOut(0));
        Check.bore("weights are less by one", house, 0, 0, 15, 0, 1);
        house = missing(31, 3, 5, 7);
        house.deposit(2, 3);
        house.deposit(3, 5);
        house.deposit(4, 7);
        Check.answers("calls are less by one", 1, house.closeOut(0));
        Check.bore("calls are less by one", house, 0, 0, 15, 15, 1);
    }

    private static void weightsOfZeroBearNothing() {
        bears(3, row(0, 5, 0, 5), row(0, 2, 0, 1));
        bears(1, row(0, 0, 0, 0, 0, 1), row(0, 0, 0, 0, 0, 1));
        House house = missing(3, 0, 0);
        Check.answers("all weights are 0", 3, house.closeOut(0));
        Check.bore("all weights are 0", house, 0, 0, 0, 0, 3);
        House alone = missing(3);
        Check.answers("nobody has a contribution", 3, alone.closeOut(0));
        Check.bore("nobody has a contribution", alone, 0, 0, 0, 0, 3);
    }

    private static void oneBearsAll() {
        bears(1, row(1), row(1));
        bears(7, row(8), row(7));
        bears(Edges.MOST_PAID, row(Edges.MOST_PAID), row(Edges.MOST_PAID));
    }

    private static void onlyLiveOnesBear() {
        House house = missing(6, 9, 9, 9);
        house.trade(2, 1, 0, 1, 5);
        Check.answers("2 is in default too", 1, house.declare());
        Check.answers("closeOut(0)", 0, house.closeOut(0));
        Check.told("in default", house, 2, 1, -5, 9);
        Check.told("half of it", house, 3, 0, 0, 6);
        Check.told("half of it", house, 4, 0, 0, 6);
        house.closeOut(2);
        Check.told("its own contribution bore it", house, 2, 2, 0, 4);
        house.trade(3, 1, 0, 1, 9);
        house.declare();
        house.closeOut(3);
        Check.told("one that is out bears nothing", house, 2, 2, 0, 4);
        Check.told("the only one with a contribution", house, 4, 0, 0, 3);
    }

    private static void onlyLiveOnesAreCalled() {
        House house = missing(100, 9, 9, 9);
        house.instrument(0, 0, 0);
        house.move(0, 1, -10);
        for (int m = 2; m <= 4; m++) {
            house.deposit(m, 5);
        }
        house.trade(2, 1, 1, 1, 0);
        Check.answers("2 is in default", 1, house.declare());
        house.trade(3, 1, 1, 1, 0);
        Check.answers("3 is in default", 1, house.declare());
        Check.answers("closeOut(2)", 0, house.closeOut(2));
        Check.told("out, with cash", house, 2, 2, 5, 9);
        house.deposit(1, 1000);
        Check.answers("closeOut(0)", 100 - 9 - 5, house.closeOut(0));
        Check.bore("4 alone gave and was called", house, 0, 0, 9, 5, 86);
        Check.told("one that is out", house, 2, 2, 5, 9);
        Check.told("one in default", house, 3, 1, 5, 9);
        Check.told("the one that is live", house, 4, 0, 0, 0);
    }

    private static void membersAheadOfTheDefaulterBear() {
        House house = Houses.withMembers(7, 8, 0, 0);
        house.instrument(0, 0, 0);
        house.deposit(0, 5);
        house.deposit(1, 6);
        house.trade(2, 3, 0, 1, 4);
        house.declare();
        // 28/15 and 32/15 leave 13 and 2
        Check.answers("closeOut(2)", 0, house.closeOut(2));
        Check.told("4 by 7 and 8", house, 0, 0, 5, 7 - 2);
        Check.told("4 by 7 and 8", house, 1, 0, 6, 8 - 2);
        house.member(0);
        house.trade(4, 3, 0, 1, 20);
        house.declare();
        // 9 of 5 and 6: 45/11 and 54/11 leave 1 and 10
        Check.answers("closeOut(4)", 0, house.closeOut(4));
        Check.bore("20 by 5 and 6", house, 0, 0, 11, 9, 0);
        Check.told("20 by 5 and 6", house, 0, 0, 5 - 4, 0);
        Check.told("20 by 5 and 6", house, 1, 0, 6 - 5, 0);
    }

    /** Each of the eight in turn is closed out, and the others, who have less cash than they gave, bear it. */
    private static void allAroundTheDefaulterBear() {
        for (int defaulter = 0; defaulter <= 7; defaulter++) {
            House house = Houses.eightMembers();
            house.instrument(0, 1000000, 0);
            int winner = defaulter == 7 ? 6 : 7;
            for (int m = 0; m <= 7; m++) {
                house.deposit(m, m + 1);
            }
            house.trade(defaulter, winner, 0, 1, 1000 + defaulter + 1);
            house.declare();
            // the winner has much cash and is called for what it gave, the others for all they have
            long given = 360 - 10 * (defaulter + 1);
            long called = 36 - (defaulter + 1) - (winner + 1) + 10 * (winner + 1);
            long loss = 1000 - 360 - called;
            Check.answers("closeOut(" + defaulter + ")", loss, house.closeOut(defaulter));
            Check.bore("closeOut(" + defaulter + ")", house, 10 * (defaulter + 1), 0, given, called, loss);
            for (int m = 0; m <= 7; m++) {
                long cash = m == winner ? 1000 + defaulter + 1 + m + 1 - 10 * (m + 1) : 0;
                Check.told("closeOut(" + defaulter + ")", house, m, m == defaulter ? 2 : 0, cash, 0);
            }
        }
    }

    private static void productsBeyondALong() {
        long most = Edges.MOST_PAID;
        long[][] weights = {
            {most, most - 1, most - 2, 1, 999_999_999_961L, 123_456_789_012L},
            {most, most, most, most, most, most},
            {1, 2, 3, most, 5, 7},
            {999_999_000_001L, 777_777_777_777L, 333_333_333_333L, 65_536, 4_294_967_296L, 281_474_976_710L},
        };
        long[] amounts = {1, 65_537, 999_999_999_999L, 1_000_000_000_001L, 1_234_567_890_123L, 2_000_000_000_003L,
            5_999_999_999_999L};
        for (long[] row : weights) {
            for (long amount : amounts) {
                if (amount < Arrays.stream(row).sum()) {
                    bears(amount, row, due(amount, row));
                }
            }
        }
    }

    private static void callsAreSharedByWhatCanBeCalled() {
        // layer 2 bears 60; 34 are called, by 10, 20 and 7 of 37: 340/37, 680/37 and 238/37 leave 7, 14 and 16
        House house = missing(94, 10, 20, 30);
        house.deposit(2, 11);
        house.deposit(3, 100);
        house.deposit(4, 7);
        Check.answers("closeOut(0)", 0, house.closeOut(0));
        Check.bore("94 by 10, 20 and 30", house, 0, 0, 60, 34, 0);
        Check.told("without contribution", house, 1, 0, 94, 0);
        Check.told("with one more than its contribution", house, 2, 0, 11 - 9, 0);
        Check.told("with much more", house, 3, 0, 100 - 18, 0);
        Check.told("with less", house, 4, 0, 0, 0);
    }

    private static long[] due(long amount, long[] weights) {
        BigInteger together = BigInteger.valueOf(Arrays.stream(weights).sum());
        long[] due = new long[weights.length];
        BigInteger[] remainders = new BigInteger[weights.length];
        long left = amount;
        for (int m = 0; m < weights.length; m++) {
            BigInteger[] division = BigInteger.valueOf(amount).multiply(BigInteger.valueOf(weights[m]))
                    .divideAndRemainder(together);
            due[m] = division[0].longValueExact();
            remainders[m] = division[1];
            left -= due[m];
        }
        for (int m = 0; m < weights.length; m++) {
            int ahead = 0;
            for (int other = 0; other < weights.length; other++) {
                int order = remainders[other].compareTo(remainders[m]);
                if (order > 0 || order == 0 && other < m) {
                    ahead++;
                }
            }
            if (ahead < left) {
                due[m]++;
            }
        }
        return due;
    }

    private static long[] row(long... values) {
        return values;
    }
}
