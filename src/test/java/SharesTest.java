import java.math.BigInteger;

/** Terms: shares of an amount by weights, as layers 2 and 3 of a closing out take them. */
public final class SharesTest {
    public static void main(String[] args) {
        equalWeightsFavourTheLeastNumber();
        greatestRemaindersComeFirst();
        weightsOfZeroBearNothing();
        onlyLiveOnesBear();
        membersAheadOfTheDefaulterBear();
        productsBeyondALong();
        callsAreSharedByWhatCanBeCalled();
        Check.end();
    }

    /**
     * A house of which member 0 lacks the amount and member 1, without contribution, has it; the others follow
     * with the contributions given, and member 0 has neither contribution nor positions.
     */
    private static MarginHouse houseMissing(long amount, long... contributions) {
        MarginHouse house = Houses.withMembers(0, 0);
        for (long contribution : contributions) {
            house.member(contribution);
        }
        house.instrument(0, 1000000, 0);
        for (long left = amount / 100_000_000_000L; left > 0; left--) {
            payAndTradeBack(house, 100_000, 1_000_000);
        }
        long rest = amount % 100_000_000_000L;
        if (rest >= 100_000) {
            payAndTradeBack(house, 100_000, (int) (rest / 100_000));
        }
        if (rest % 100_000 > 0) {
            payAndTradeBack(house, 1, (int) (rest % 100_000));
        }
        Check.answers("cash of 0", -amount, house.told(0, 1));
        house.declare();
        return house;
    }

    private static void payAndTradeBack(MarginHouse house, int units, int price) {
        house.trade(0, 1, 0, units, price);
        house.trade(1, 0, 0, units, 0);
    }

    private static void bears(long amount, long[] contributions, long[] due) {
        MarginHouse house = houseMissing(amount, contributions);
        Check.answers("closeOut(0) of " + amount, 0, house.closeOut(0));
        Check.answers("bore(2)", amount, house.bore(2));
        for (int m = 0; m < contributions.length; m++) {
            Check.answers("of " + amount + ", member " + (m + 2) + " bore", due[m], contributions[m] - house.told(m + 2, 2));
        }
    }

    private static void equalWeightsFavourTheLeastNumber() {
        bears(1, row(10, 10, 10), row(1, 0, 0));
        bears(2, row(10, 10, 10), row(1, 1, 0));
        bears(10, row(10, 10, 10), row(4, 3, 3));
        bears(11, row(10, 10, 10), row(4, 4, 3));
        bears(12, row(10, 10, 10), row(4, 4, 4));
        bears(29, row(10, 10, 10), row(10, 10, 9));
        bears(30, row(10, 10, 10), row(10, 10, 10));
        bears(5, row(1, 1, 1, 1, 1, 1), row(1, 1, 1, 1, 1, 0));
    }

    private static void greatestRemaindersComeFirst() {
        // 12/15, 20/15 and 28/15: 0 and 12 left, 1 and 5 left, 1 and 13 left
        bears(4, row(3, 5, 7), row(1, 1, 2));
        // 9/15, 15/15 and 21/15
        bears(3, row(3, 5, 7), row(1, 1, 1));
        // 3/15, 5/15 and 7/15
        bears(1, row(3, 5, 7), row(0, 0, 1));
        // 14/20, 14/20, 12/20: equal ones by number, the third gets none
        bears(2, row(7, 7, 6), row(1, 1, 0));
        // 6/20, 7/20, 7/20
        bears(1, row(6, 7, 7), row(0, 1, 0));
    }

    private static void weightsOfZeroBearNothing() {
        bears(3, row(0, 5, 0, 5), row(0, 2, 0, 1));
        MarginHouse house = houseMissing(3, 0, 0);
        Check.answers("closeOut(0)", 3, house.closeOut(0));
        Check.answers("bore(2)", 0, house.bore(2));
        Check.answers("bore(3)", 0, house.bore(3));
    }

    private static void onlyLiveOnesBear() {
        MarginHouse house = houseMissing(6, 9, 9, 9);
        house.trade(2, 1, 0, 1, 5);
        Check.answers("2 is in default too", 1, house.declare());
        Check.answers("closeOut(0)", 0, house.closeOut(0));
        Check.answers("2 bore nothing", 9, house.told(2, 2));
        Check.answers("3 bore half", 6, house.told(3, 2));
        Check.answers("4 bore half", 6, house.told(4, 2));
    }

    private static void membersAheadOfTheDefaulterBear() {
        MarginHouse house = Houses.withMembers(7, 8, 0, 0);
        house.instrument(0, 0, 0);
        house.deposit(0, 5);
        house.deposit(1, 6);
        house.trade(2, 3, 0, 1, 4);
        house.declare();
        // 28/15 and 32/15 leave 13 and 2
        Check.answers("closeOut(2)", 0, house.closeOut(2));
        Check.answers("contribution of 0", 7 - 2, house.told(0, 2));
        Check.answers("contribution of 1", 8 - 2, house.told(1, 2));
        house.member(0);
        house.trade(4, 3, 0, 1, 20);
        house.declare();
        // 9 of 5 and 6: 45/11 and 54/11 leave 1 and 10
        Check.answers("closeOut(4)", 0, house.closeOut(4));
        Check.answers("bore(2)", 11, house.bore(2));
        Check.answers("cash of 0", 5 - 4, house.told(0, 1));
        Check.answers("cash of 1", 6 - 5, house.told(1, 1));
    }

    private static void productsBeyondALong() {
        long most = Houses.MOST_PAID;
        long[][] weights = {
            {most, most - 1, most - 2, 1, 999_999_999_961L, 123_456_789_012L},
            {most, most, most, most, most, most},
            {1, 2, 3, most, 5, 7},
            {999_999_000_001L, 777_777_777_777L, 333_333_333_333L, 65_536, 4_294_967_296L, 281_474_976_710L},
        };
        long[] amounts = {1, 65_537, 999_999_999_999L, 1_000_000_000_001L, 1_234_567_890_123L, 2_000_000_000_003L};
        for (long[] row : weights) {
            for (long amount : amounts) {
                if (amount < sum(row)) {
                    bears(amount, row, due(amount, row));
                }
            }
        }
    }

    private static void callsAreSharedByWhatCanBeCalled() {
        // layer 2 bears 60; 34 are called, by 10, 20 and 7 of 37: 340/37, 680/37 and 238/37 leave 7, 14 and 16
        MarginHouse house = houseMissing(94, 10, 20, 30);
        house.deposit(2, 11);
        house.deposit(3, 100);
        house.deposit(4, 7);
        Check.answers("closeOut(0)", 0, house.closeOut(0));
        Check.answers("bore(2)", 60, house.bore(2));
        Check.answers("bore(3)", 34, house.bore(3));
        Check.answers("cash of 1, without contribution", 94, house.told(1, 1));
        Check.answers("cash of 2", 11 - 9, house.told(2, 1));
        Check.answers("cash of 3", 100 - 18, house.told(3, 1));
        Check.answers("cash of 4", 0, house.told(4, 1));
    }

    private static long[] due(long amount, long[] weights) {
        BigInteger together = BigInteger.valueOf(sum(weights));
        long[] due = new long[weights.length];
        BigInteger[] remainders = new BigInteger[weights.length];
        long left = amount;
        for (int m = 0; m < weights.length; m++) {
            BigInteger[] division = BigInteger.valueOf(amount).multiply(BigInteger.valueOf(weights[m]))
                    .divideAndRemainder(together);
            due[m] = division[0].longValueExact();
            remainders[m] = division[1];
            left -= due[m];
        }
        for (int m = 0; m < weights.length; m++) {
            int ahead = 0;
            for (int other = 0; other < weights.length; other++) {
                int order = remainders[other].compareTo(remainders[m]);
                if (order > 0 || order == 0 && other < m) {
                    ahead++;
                }
            }
            if (ahead < left) {
                due[m]++;
            }
        }
        return due;
    }

    private static long sum(long[] weights) {
        long sum = 0;
        for (long weight : weights) {
            sum += weight;
        }
        return sum;
    }

    private static long[] row(long... values) {
        return values;
    }
}
