import java.util.function.LongSupplier;

/**
 * All that can be learnt of a house, as one text: what it tells, and then, since prices, limits, extras, moves and bids
 * are told by no call, what trades, margins and closings out make of it. The house is used up by that.
 */
final class Probe {
    private final House house;
    private final StringBuilder text = new StringBuilder();

    private Probe(House house) {
        this.house = house;
    }

    static String of(House house) {
        Probe probe = new Probe(house);
        probe.readAll();
        probe.closeOutAll();
        probe.readAll();
        probe.tradeAll();
        probe.closeOutAll();
        probe.addMore();
        probe.markAll();
        probe.readAll();
        return probe.text.toString();
    }

    static String outcome(LongSupplier call) {
        try {
            return Long.toString(call.getAsLong());
        } catch (RuntimeException e) {
            return "throws " + e.getClass().getSimpleName();
        }
    }

    private void readAll() {
        for (int n = 0; n <= 5; n++) {
            int what = n;
            tell("all" + what, () -> house.all(what));
        }
        for (int n = 0; n <= 4; n++) {
            int layer = n;
            tell("bore" + layer, () -> house.bore(layer));
        }
        for (int m = 0; m <= 7; m++) {
            readMember(m);
        }
    }

    private void readMember(int m) {
        for (int n = 0; n <= 2; n++) {
            int what = n;
            tell("told" + m + "," + what, () -> house.told(m, what));
        }
        tell("margin" + m, () -> house.margin(m));
        tell("called" + m, () -> house.called(m));
        for (int n = 0; n <= 5; n++) {
            int instrument = n;
            tell("position" + m + "," + instrument, () -> house.position(m, instrument));
        }
    }

    /** The first live member buys of the last one so dearly that it will be in default. */
    private void tradeAll() {
        int buyer = 0;
        while (buyer < 7 && !isLive(buyer)) {
            buyer++;
        }
        int seller = 7;
        while (seller > 0 && !isLive(seller)) {
            seller--;
        }
        for (int i = 0; i <= 5; i++) {
            tradeOne(buyer, seller, i);
        }
        tell("declare", house::declare);
    }

    private void tradeOne(int buyer, int seller, int instrument) {
        tell("trade" + instrument, () -> house.trade(buyer, seller, instrument, 1000, 1_000_000));
        tell("margin" + buyer, () -> house.margin(buyer));
        tell("margin" + seller, () -> house.margin(seller));
    }

    private void addMore() {
        tell("member", () -> house.member(5));
        tell("instrument", () -> house.instrument(9, 1, 2));
        tell("capital", () -> house.capital(3));
    }

    private void closeOutAll() {
        for (int n = 0; n <= 7; n++) {
            int m = n;
            tell("closeOut" + m, () -> house.closeOut(m));
        }
    }

    private void markAll() {
        for (int n = 0; n <= 5; n++) {
            int instrument = n;
            tell("mark" + instrument, () -> house.mark(instrument, 5));
        }
    }

    private boolean isLive(int member) {
        return outcome(() -> house.told(member, 0)).equals("0");
    }

    private void tell(String name, LongSupplier call) {
        text.append(name).append('=').append(outcome(call)).append(' ');
    }
}
