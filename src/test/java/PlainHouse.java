import java.math.BigInteger;
import java.util.ArrayList;
import java.util.Comparator;
import java.util.List;

/** The document's house once more, written for being plain: what MarginHouse answers is held against it. */
final class PlainHouse {
    private static final long T12 = 1_000_000_000_000L;

    private static final class Person {
        int state;
        long cash;
        long contribution;
        final int[] units = new int[6];
        final int[] bids = new int[6];
    }

    private final List<Person> people = new ArrayList<>();
    private final List<int[]> goods = new ArrayList<>();
    private final int[][] moves = new int[8][6];
    private long capital;
    private long losses;
    private int trades;
    private long[] bore = new long[5];

    long member(long contribution) {
        require(contribution >= 0 && contribution <= T12);
        if (people.size() == 8) {
            return -1;
        }
        Person person = new Person();
        person.contribution = contribution;
        people.add(person);
        return people.size() - 1;
    }

    long instrument(int price, int limit, int extra) {
        require(million(price) && million(limit) && million(extra));
        if (goods.size() == 6) {
            return -1;
        }
        goods.add(new int[] {price, limit, extra});
        return goods.size() - 1;
    }

    long capital(long amount) {
        require(amount >= 0 && amount <= T12);
        return capital += amount;
    }

    long move(int move, int instrument, int by) {
        require(move >= 0 && move < 8 && isGood(instrument) && by >= -1_000_000 && by <= 1_000_000);
        return moves[move][instrument] = by;
    }

    long bid(int member, int instrument, int bid) {
        require(isPerson(member) && isGood(instrument) && million(bid));
        return people.get(member).bids[instrument] = bid;
    }

    long deposit(int member, long amount) {
        require(isPerson(member) && amount >= 1 && amount <= T12);
        requireLive(member);
        return people.get(member).cash += amount;
    }

    long withdraw(int member, long amount) {
        require(isPerson(member) && amount >= 1 && amount <= T12);
        requireLive(member);
        Person person = people.get(member);
        return person.cash - amount < margin(member) ? -1 : (person.cash -= amount);
    }

    long trade(int buyer, int seller, int instrument, int qty, int price) {
        require(isPerson(buyer) && isPerson(seller) && buyer != seller && isGood(instrument));
        require(qty >= 1 && qty <= 100_000 && million(price));
        requireLive(buyer);
        requireLive(seller);
        Person buys = people.get(buyer);
        Person sells = people.get(seller);
        if (buys.units[instrument] + qty > 1_000_000 || sells.units[instrument] - qty < -1_000_000) {
            return -1;
        }
        for (int unit = 0; unit < 2; unit++) {
            Person one = unit == 0 ? buys : sells;
            int sign = unit == 0 ? 1 : -1;
            one.units[instrument] += sign * qty;
            one.cash += sign * (long) qty * (goods.get(instrument)[0] - price);
        }
        return ++trades;
    }

    long mark(int instrument, int price) {
        require(isGood(instrument) && million(price));
        for (Person person : people) {
            person.cash += (long) person.units[instrument] * (price - goods.get(instrument)[0]);
        }
        goods.get(instrument)[0] = price;
        return people.stream().filter(p -> p.state == 0 && p.cash < 0).count();
    }

    long margin(int member) {
        require(isPerson(member));
        Person person = people.get(member);
        long worst = 0;
        for (int[] move : moves) {
            long loss = 0;
            for (int i = 0; i < 6; i++) {
                loss -= (long) person.units[i] * move[i];
            }
            worst = Math.max(worst, loss);
        }
        for (int i = 0; i < goods.size(); i++) {
            worst += (long) goods.get(i)[2] * Math.max(0, Math.abs(person.units[i]) - goods.get(i)[1]);
        }
        return worst;
    }

    long called(int member) {
        require(isPerson(member));
        Person person = people.get(member);
        return person.state != 0 || person.cash >= margin(member) ? 0 : margin(member) - person.cash;
    }

    long declare() {
        long count = 0;
        for (int m = 0; m < people.size(); m++) {
            if (called(m) > 0) {
                people.get(m).state = 1;
                count++;
            }
        }
        return count;
    }

    long closeOut(int member) {
        require(isPerson(member));
        Person gone = people.get(member);
        if (gone.state != 1) {
            throw new IllegalStateException();
        }
        List<Person> live = people.stream().filter(p -> p.state == 0).toList();
        for (int i = 0; i < goods.size(); i++) {
            if (gone.units[i] != 0
                    && (live.isEmpty() || Math.abs(cheapest(live, i).units[i] + gone.units[i]) > 1_000_000)) {
                return -1;
            }
        }
        for (int i = 0; i < goods.size(); i++) {
            if (gone.units[i] != 0) {
                Person taker = cheapest(live, i);
                taker.units[i] += gone.units[i];
                taker.cash += (long) Math.abs(gone.units[i]) * taker.bids[i];
                gone.cash -= (long) Math.abs(gone.units[i]) * taker.bids[i];
                gone.units[i] = 0;
            }
        }
        gone.state = 2;
        long missing = gone.cash < 0 ? -gone.cash : 0;
        gone.cash = gone.cash < 0 ? 0 : gone.cash;
        return bear(gone, live, missing);
    }

    private long bear(Person gone, List<Person> live, long missing) {
        bore = new long[5];
        bore[0] = Math.min(missing, gone.contribution);
        gone.contribution -= bore[0];
        bore[1] = Math.min(missing - bore[0], capital);
        capital -= bore[1];
        long rest = missing - bore[0] - bore[1];
        long[] before = live.stream().mapToLong(p -> p.contribution).toArray();
        long[] parts = shares(rest, before);
        for (int n = 0; n < parts.length; n++) {
            live.get(n).contribution -= parts[n];
            bore[2] += parts[n];
        }
        rest -= bore[2];
        long[] callable = new long[before.length];
        for (int n = 0; n < before.length; n++) {
            callable[n] = Math.max(0, Math.min(before[n], live.get(n).cash));
        }
        parts = shares(rest, callable);
        for (int n = 0; n < parts.length; n++) {
            live.get(n).cash -= parts[n];
            bore[3] += parts[n];
        }
        bore[4] = rest - bore[3];
        losses += bore[4];
        return bore[4];
    }

    long told(int member, int what) {
        require(isPerson(member) && what >= 0 && what <= 2);
        Person person = people.get(member);
        return what == 0 ? person.state : what == 1 ? person.cash : person.contribution;
    }

    long position(int member, int instrument) {
        require(isPerson(member) && isGood(instrument));
        return people.get(member).units[instrument];
    }

    long bore(int layer) {
        require(layer >= 0 && layer <= 4);
        return bore[layer];
    }

    long all(int what) {
        require(what >= 0 && what <= 5);
        long cash = people.stream().mapToLong(p -> p.cash).sum();
        long fund = people.stream().mapToLong(p -> p.contribution).sum();
        long open = people.stream().flatMapToInt(p -> java.util.Arrays.stream(p.units)).filter(u -> u > 0).sum();
        return new long[] {capital, losses, cash, fund, trades, open}[what];
    }

    private static Person cheapest(List<Person> live, int instrument) {
        return live.stream().min(Comparator.comparingInt(p -> p.bids[instrument])).orElseThrow();
    }

    private static long[] shares(long amount, long[] weights) {
        BigInteger all = BigInteger.ZERO;
        for (long weight : weights) {
            all = all.add(BigInteger.valueOf(weight));
        }
        if (all.compareTo(BigInteger.valueOf(amount)) < 0 || all.signum() == 0) {
            return weights.clone();
        }
        long[] parts = new long[weights.length];
        BigInteger[] remainders = new BigInteger[weights.length];
        List<Integer> order = new ArrayList<>();
        long left = amount;
        for (int n = 0; n < weights.length; n++) {
            BigInteger product = BigInteger.valueOf(amount).multiply(BigInteger.valueOf(weights[n]));
            parts[n] = product.divide(all).longValueExact();
            remainders[n] = product.mod(all);
            left -= parts[n];
            order.add(n);
        }
        order.sort(Comparator.comparing((Integer n) -> remainders[n]).reversed());
        for (int n = 0; n < left; n++) {
            parts[order.get(n)]++;
        }
        return parts;
    }

    private boolean isPerson(int member) {
        return member >= 0 && member < people.size();
    }

    private boolean isGood(int instrument) {
        return instrument >= 0 && instrument < goods.size();
    }

    private static boolean million(int value) {
        return value >= 0 && value <= 1_000_000;
    }

    private void requireLive(int member) {
        if (people.get(member).state != 0) {
            throw new IllegalStateException();
        }
    }

    private static void require(boolean holds) {
        if (!holds) {
            throw new IllegalArgumentException();
        }
    }
}
