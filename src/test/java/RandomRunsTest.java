import java.util.Random;
import java.util.function.LongSupplier;

/** Runs of some 500 calls, the same ones each time, on MarginHouse and on PlainHouse: all answers must be the same. */
public final class RandomRunsTest {
    private static final int RUNS = 3000;
    private static final long T12 = Edges.MOST_PAID;

    private final int seed;
    private final Random random;
    private final int greatest;
    private final House house = new House();
    private final PlainHouse plain = new PlainHouse();
    private int calls = 0;

    private static int refusedClosings = 0;
    private static final int[] closingsThatReached = new int[5];

    private RandomRunsTest(int seed) {
        this.seed = seed;
        random = new Random(seed);
        greatest = new int[] {4, 100, 5000, 1_000_000}[seed % 4];
    }

    public static void main(String[] args) {
        for (int seed = 0; seed < RUNS; seed++) {
            new RandomRunsTest(seed).run();
        }
        for (int layer = 0; layer <= 4; layer++) {
            Check.holds("hardly a closing out reached layer " + layer, closingsThatReached[layer] > 500);
        }
        Check.holds("hardly a closing out was refused", refusedClosings > 100);
        Check.end();
    }

    private void run() {
        begin();
        while (calls < 412) {
            oneCall();
        }
        lookAtAll();
    }

    private void begin() {
        int members = 2 + random.nextInt(7);
        int instruments = 1 + random.nextInt(6);
        for (int m = 0; m < members; m++) {
            member(contribution());
        }
        for (int i = 0; i < instruments; i++) {
            instrument(upTo(greatest), upTo(random.nextBoolean() ? 10 : 1_000_000), upTo(random.nextBoolean() ? 0 : 3));
            move(random.nextInt(8), i, upTo(greatest) / 4 - upTo(greatest) / 4);
        }
    }

    private void oneCall() {
        switch (random.nextInt(24)) {
            case 0 -> member(random.nextInt(4) == 0 ? wrongAmount() : contribution());
            case 1 -> instrument(price(), upTo(20), price());
            case 2 -> capital(random.nextInt(4) == 0 ? wrongAmount() : upTo(greatest));
            case 3 -> move(index(8), index(6), price() - price());
            case 4, 5 -> bid(index(8), index(6), price());
            case 6, 7, 8 -> deposit(index(8), random.nextInt(9) == 0 ? wrongAmount() : 1 + upTo(greatest) * 10L);
            case 9 -> withdraw(index(8), random.nextInt(9) == 0 ? wrongAmount() : 1 + upTo(greatest));
            case 10, 11, 12, 13, 14 -> trade(index(8), index(8), index(6), quantity(), price());
            case 15, 16, 17 -> mark(index(6), price());
            case 18 -> look(index(8), index(6));
            case 19 -> declare();
            case 20, 21, 22 -> closeOut(index(8));
            default -> lookAtHouse(index(7));
        }
    }

    private void lookAtAll() {
        for (int m = 0; m < 8; m++) {
            for (int what = 0; what <= 2; what++) {
                told(m, what);
            }
            margin(m);
            for (int i = 0; i < 6; i++) {
                position(m, i);
            }
        }
        for (int what = 0; what <= 5; what++) {
            lookAtHouse(what);
        }
    }

    private void look(int member, int instrument) {
        told(member, index(3));
        margin(member);
        called(member);
        position(member, instrument);
    }

    private void lookAtHouse(int what) {
        both("all(" + what + ")", () -> house.all(what), () -> plain.all(what));
        both("bore(" + what + ")", () -> house.bore(what), () -> plain.bore(what));
    }

    private int index(int most) {
        return random.nextInt(40) == 0 ? random.nextInt(most + 4) - 2 : random.nextInt(most);
    }

    private int upTo(int most) {
        return random.nextInt(most + 1);
    }

    private int price() {
        int kind = random.nextInt(60);
        return kind == 0 ? -1 : kind == 1 ? 1_000_001 : kind == 2 ? 1_000_000 : upTo(greatest);
    }

    private int quantity() {
        int kind = random.nextInt(60);
        return kind == 0 ? 0 : kind == 1 ? 100_001 : kind < 30 ? 100_000 : 1 + random.nextInt(20);
    }

    private long contribution() {
        return switch (random.nextInt(4)) {
            case 0 -> upTo(10);
            case 1 -> T12 - upTo(10);
            default -> (long) (random.nextDouble() * greatest * greatest);
        };
    }

    private long wrongAmount() {
        return new long[] {-1, 0, T12, T12 + 1, Long.MIN_VALUE, Long.MAX_VALUE}[random.nextInt(6)];
    }

    private void member(long contribution) {
        both("member(" + contribution + ")", () -> house.member(contribution), () -> plain.member(contribution));
    }

    private void instrument(int price, int limit, int extra) {
        both("instrument(" + price + ", " + limit + ", " + extra + ")",
                () -> house.instrument(price, limit, extra), () -> plain.instrument(price, limit, extra));
    }

    private void capital(long amount) {
        both("capital(" + amount + ")", () -> house.capital(amount), () -> plain.capital(amount));
    }

    private void move(int move, int instrument, int by) {
        both("move(" + move + ", " + instrument + ", " + by + ")", () -> {
            house.move(move, instrument, by);
            return by;
        }, () -> plain.move(move, instrument, by));
    }

    private void bid(int member, int instrument, int bid) {
        both("bid(" + member + ", " + instrument + ", " + bid + ")", () -> {
            house.bid(member, instrument, bid);
            return bid;
        }, () -> plain.bid(member, instrument, bid));
    }

    private void deposit(int member, long amount) {
        both("deposit(" + member + ", " + amount + ")",
                () -> house.deposit(member, amount), () -> plain.deposit(member, amount));
    }

    private void withdraw(int member, long amount) {
        both("withdraw(" + member + ", " + amount + ")",
                () -> house.withdraw(member, amount), () -> plain.withdraw(member, amount));
    }

    private void trade(int buyer, int seller, int instrument, int qty, int price) {
        both("trade(" + buyer + ", " + seller + ", " + instrument + ", " + qty + ", " + price + ")",
                () -> house.trade(buyer, seller, instrument, qty, price),
                () -> plain.trade(buyer, seller, instrument, qty, price));
    }

    private void mark(int instrument, int price) {
        both("mark(" + instrument + ", " + price + ")",
                () -> house.mark(instrument, price), () -> plain.mark(instrument, price));
    }

    private void margin(int member) {
        both("margin(" + member + ")", () -> house.margin(member), () -> plain.margin(member));
    }

    private void called(int member) {
        both("called(" + member + ")", () -> house.called(member), () -> plain.called(member));
    }

    private void declare() {
        both("declare()", house::declare, plain::declare);
    }

    private void told(int member, int what) {
        both("told(" + member + ", " + what + ")", () -> house.told(member, what), () -> plain.told(member, what));
    }

    private void position(int member, int instrument) {
        both("position(" + member + ", " + instrument + ")",
                () -> house.position(member, instrument), () -> plain.position(member, instrument));
    }

    private void closeOut(int member) {
        String got = both("closeOut(" + member + ")", () -> house.closeOut(member), () -> plain.closeOut(member));
        if (got.equals("-1")) {
            refusedClosings++;
        } else if (!got.startsWith("throws")) {
            for (int layer = 0; layer <= 4; layer++) {
                closingsThatReached[layer] += plain.bore(layer) > 0 ? 1 : 0;
            }
        }
    }

    private String both(String call, LongSupplier ofHouse, LongSupplier ofPlain) {
        calls++;
        String due = outcome(ofPlain);
        Check.same("run " + seed + ", call " + calls + ", " + call, due, outcome(ofHouse));
        return due;
    }

    private static String outcome(LongSupplier call) {
        try {
            return Long.toString(call.getAsLong());
        } catch (RuntimeException e) {
            return "throws " + e.getClass().getSimpleName();
        }
    }
}
