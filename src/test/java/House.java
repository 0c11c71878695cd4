/**
 * A MarginHouse whose calls are counted: the document promises nothing about an object after its 512th call, so a
 * test that went on would ask for what is free.
 */
final class House {
    static final int MOST_CALLS = 512;

    private final MarginHouse house = new MarginHouse();
    private final int mostCalls;
    private int calls = 0;

    House() {
        this(MOST_CALLS);
    }

    private House(int mostCalls) {
        this.mostCalls = mostCalls;
    }

    /** For amounts that 512 calls cannot reach. */
    static House forMoreCalls() {
        return new House(Integer.MAX_VALUE);
    }

    int member(long contribution) {
        return counted().member(contribution);
    }

    int instrument(int price, int limit, int extra) {
        return counted().instrument(price, limit, extra);
    }

    long capital(long amount) {
        return counted().capital(amount);
    }

    void move(int move, int instrument, int by) {
        counted().move(move, instrument, by);
    }

    void bid(int member, int instrument, int bid) {
        counted().bid(member, instrument, bid);
    }

    long deposit(int member, long amount) {
        return counted().deposit(member, amount);
    }

    long withdraw(int member, long amount) {
        return counted().withdraw(member, amount);
    }

    int trade(int buyer, int seller, int instrument, int qty, int price) {
        return counted().trade(buyer, seller, instrument, qty, price);
    }

    int mark(int instrument, int price) {
        return counted().mark(instrument, price);
    }

    long margin(int member) {
        return counted().margin(member);
    }

    long called(int member) {
        return counted().called(member);
    }

    int declare() {
        return counted().declare();
    }

    long closeOut(int member) {
        return counted().closeOut(member);
    }

    long told(int member, int what) {
        return counted().told(member, what);
    }

    int position(int member, int instrument) {
        return counted().position(member, instrument);
    }

    long bore(int layer) {
        return counted().bore(layer);
    }

    long all(int what) {
        return counted().all(what);
    }

    int calls() {
        return calls;
    }

    private MarginHouse counted() {
        calls++;
        Check.holds("a test uses an object for " + calls + " calls", calls <= mostCalls);
        return house;
    }
}
