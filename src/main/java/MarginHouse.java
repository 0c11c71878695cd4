public final class MarginHouse {
    public static final int NONE = -1;

    private static final int MEMBERS = 8;
    private static final int INSTRUMENTS = 6;
    private static final int MOVES = 8;

    private static final int MOST_PRICE = 1000000;
    private static final int MOST_UNITS = 1000000;
    private static final int MOST_TRADED = 100000;
    private static final long MOST_PAID = 1000000000000L;
    private static final long MOST_HELD = 1000000000000000L;

    private static final int LIVE = 0;
    private static final int IN_DEFAULT = 1;
    private static final int OUT = 2;

    private static final int OWN_CONTRIBUTION = 0;
    private static final int CAPITAL = 1;
    private static final int CONTRIBUTIONS = 2;
    private static final int CALLS = 3;
    private static final int LOSS = 4;
    private static final int LAYERS = 5;

    private final Member[] members = new Member[MEMBERS];
    private final Instrument[] instruments = new Instrument[INSTRUMENTS];
    private final int[][] moves = new int[MOVES][INSTRUMENTS];
    private final long[] borne = new long[LAYERS];
    private final Plan plan = new Plan();
    private int memberCount = 0;
    private int instrumentCount = 0;
    private int tradeCount = 0;
    private long capitalHeld = 0;
    private long losses = 0;

    // All rows are made here and used again, so that no later call makes an object.
    public MarginHouse() {
        for (int m = 0; m < MEMBERS; m++) {
            members[m] = new Member();
        }
        for (int i = 0; i < INSTRUMENTS; i++) {
            instruments[i] = new Instrument();
        }
    }

    public int member(long contribution) throws IllegalArgumentException {
        need(within(contribution, 0, MOST_PAID));
        if (memberCount == MEMBERS) {
            return NONE;
        }
        members[memberCount].contribution = contribution;
        memberCount++;
        return memberCount - 1;
    }

    public int instrument(int price, int limit, int extra) throws IllegalArgumentException {
        need(within(price, 0, MOST_PRICE) && within(limit, 0, MOST_UNITS) && within(extra, 0, MOST_PRICE));
        if (instrumentCount == INSTRUMENTS) {
            return NONE;
        }
        Instrument made = instruments[instrumentCount];
        made.price = price;
        made.limit = limit;
        made.extra = extra;
        instrumentCount++;
        return instrumentCount - 1;
    }

    public long capital(long amount) throws IllegalArgumentException {
        need(within(amount, 0, MOST_PAID));
        if (isTooMuch(capitalHeld + amount)) {
            return NONE;
        }
        capitalHeld += amount;
        return capitalHeld;
    }

    public void move(int move, int instrument, int by) throws IllegalArgumentException {
        need(within(move, 0, MOVES - 1) && isInstrument(instrument) && within(by, -MOST_PRICE, MOST_PRICE));
        moves[move][instrument] = by;
    }

    public void bid(int member, int instrument, int bid) throws IllegalArgumentException {
        need(isMember(member) && isInstrument(instrument) && within(bid, 0, MOST_PRICE));
        members[member].bid[instrument] = bid;
    }

    public long deposit(int member, long amount) throws IllegalArgumentException, IllegalStateException {
        need(isMember(member) && within(amount, 1, MOST_PAID));
        Member payer = members[member];
        needStanding(payer, LIVE);
        if (isTooMuch(payer.cash + amount)) {
            return NONE;
        }
        payer.cash += amount;
        return payer.cash;
    }

    public long withdraw(int member, long amount) throws IllegalArgumentException, IllegalStateException {
        need(isMember(member) && within(amount, 1, MOST_PAID));
        Member taker = members[member];
        needStanding(taker, LIVE);
        if (taker.cash - amount < marginOf(taker)) {
            return NONE;
        }
        taker.cash -= amount;
        return taker.cash;
    }

    public int trade(int buyer, int seller, int instrument, int qty, int price)
            throws IllegalArgumentException, IllegalStateException {
        need(isMember(buyer) && isMember(seller) && buyer != seller && isInstrument(instrument));
        need(within(qty, 1, MOST_TRADED) && within(price, 0, MOST_PRICE));
        Member buying = members[buyer];
        Member selling = members[seller];
        needStanding(buying, LIVE);
        needStanding(selling, LIVE);
        long gain = (long) qty * (instruments[instrument].price - price);
        if (isTooMuch(buying.cash + gain) || isTooMuch(selling.cash - gain)
                || isTooMany(buying.position[instrument] + qty) || isTooMany(selling.position[instrument] - qty)) {
            return NONE;
        }
        buying.cash += gain;
        selling.cash -= gain;
        buying.position[instrument] += qty;
        selling.position[instrument] -= qty;
        tradeCount++;
        return tradeCount;
    }

    public int mark(int instrument, int price) throws IllegalArgumentException {
        need(isInstrument(instrument) && within(price, 0, MOST_PRICE));
        long rise = price - instruments[instrument].price;
        for (int m = 0; m < memberCount; m++) {
            if (isTooMuch(members[m].cash + rise * members[m].position[instrument])) {
                return NONE;
            }
        }
        for (int m = 0; m < memberCount; m++) {
            members[m].cash += rise * members[m].position[instrument];
        }
        instruments[instrument].price = price;
        return countLiveBelowZero();
    }

    public long margin(int member) throws IllegalArgumentException {
        need(isMember(member));
        return marginOf(members[member]);
    }

    public long called(int member) throws IllegalArgumentException {
        need(isMember(member));
        return shortfallOf(members[member]);
    }

    public int declare() {
        int became = 0;
        for (int m = 0; m < memberCount; m++) {
            if (shortfallOf(members[m]) > 0) {
                members[m].standing = IN_DEFAULT;
                became++;
            }
        }
        return became;
    }

    public long closeOut(int member) throws IllegalArgumentException, IllegalStateException {
        need(isMember(member));
        needStanding(members[member], IN_DEFAULT);
        startPlan();
        if (!planTakers(member)) {
            return NONE;
        }
        planLayers(member);
        if (isTooMuch(losses + plan.borne[LOSS])) {
            return NONE;
        }
        carryOutPlan(member);
        return borne[LOSS];
    }

    public long told(int member, int what) throws IllegalArgumentException {
        need(isMember(member) && within(what, 0, 2));
        switch (what) {
            case 0:
                return members[member].standing;
            case 1:
                return members[member].cash;
            default:
                return members[member].contribution;
        }
    }

    public int position(int member, int instrument) throws IllegalArgumentException {
        need(isMember(member) && isInstrument(instrument));
        return members[member].position[instrument];
    }

    public long bore(int layer) throws IllegalArgumentException {
        need(within(layer, 0, LAYERS - 1));
        return borne[layer];
    }

    public long all(int what) throws IllegalArgumentException {
        need(within(what, 0, 5));
        switch (what) {
            case 0:
                return capitalHeld;
            case 1:
                return losses;
            case 2:
                return sumCash();
            case 3:
                return sumContributions();
            case 4:
                return tradeCount;
            default:
                return sumUnitsOpen();
        }
    }

    private static void need(boolean holds) {
        if (!holds) {
            throw new IllegalArgumentException();
        }
    }

    private static void needStanding(Member member, int standing) {
        if (member.standing != standing) {
            throw new IllegalStateException();
        }
    }

    private static boolean within(long value, long least, long most) {
        return value >= least && value <= most;
    }

    private static boolean isTooMuch(long amount) {
        return !within(amount, -MOST_HELD, MOST_HELD);
    }

    private static boolean isTooMany(int units) {
        return !within(units, -MOST_UNITS, MOST_UNITS);
    }

    private boolean isMember(int member) {
        return within(member, 0, memberCount - 1);
    }

    private boolean isInstrument(int instrument) {
        return within(instrument, 0, instrumentCount - 1);
    }

    private int countLiveBelowZero() {
        int count = 0;
        for (int m = 0; m < memberCount; m++) {
            if (members[m].standing == LIVE && members[m].cash < 0) {
                count++;
            }
        }
        return count;
    }

    private long marginOf(Member member) {
        long worst = 0;
        for (int v = 0; v < MOVES; v++) {
            worst = Math.max(worst, lossUnder(moves[v], member));
        }
        return worst + extraOf(member);
    }

    private long lossUnder(int[] move, Member member) {
        long gain = 0;
        for (int i = 0; i < instrumentCount; i++) {
            gain += (long) member.position[i] * move[i];
        }
        return -gain;
    }

    private long extraOf(Member member) {
        long sum = 0;
        for (int i = 0; i < instrumentCount; i++) {
            int above = Math.abs(member.position[i]) - instruments[i].limit;
            if (above > 0) {
                sum += (long) above * instruments[i].extra;
            }
        }
        return sum;
    }

    private long shortfallOf(Member member) {
        if (member.standing != LIVE) {
            return 0;
        }
        return Math.max(0, marginOf(member) - member.cash);
    }

    private long sumCash() {
        long sum = 0;
        for (int m = 0; m < memberCount; m++) {
            sum += members[m].cash;
        }
        return sum;
    }

    private long sumContributions() {
        long sum = 0;
        for (int m = 0; m < memberCount; m++) {
            sum += members[m].contribution;
        }
        return sum;
    }

    private long sumUnitsOpen() {
        long sum = 0;
        for (int m = 0; m < memberCount; m++) {
            for (int i = 0; i < instrumentCount; i++) {
                sum += Math.max(0, members[m].position[i]);
            }
        }
        return sum;
    }

    private void startPlan() {
        for (int m = 0; m < memberCount; m++) {
            plan.cash[m] = members[m].cash;
            plan.contribution[m] = members[m].contribution;
        }
        plan.capital = capitalHeld;
    }

    private boolean planTakers(int defaulter) {
        for (int i = 0; i < instrumentCount; i++) {
            plan.taker[i] = NONE;
            if (members[defaulter].position[i] != 0) {
                int taker = leastBidder(i);
                if (taker == NONE || !planTaking(defaulter, taker, i)) {
                    return false;
                }
            }
        }
        return true;
    }

    private int leastBidder(int instrument) {
        int least = NONE;
        for (int m = 0; m < memberCount; m++) {
            if (members[m].standing == LIVE
                    && (least == NONE || members[m].bid[instrument] < members[least].bid[instrument])) {
                least = m;
            }
        }
        return least;
    }

    private boolean planTaking(int defaulter, int taker, int instrument) {
        int units = members[defaulter].position[instrument];
        long asked = (long) members[taker].bid[instrument] * Math.abs(units);
        plan.taker[instrument] = taker;
        plan.cash[taker] += asked;
        plan.cash[defaulter] -= asked;
        return !isTooMany(members[taker].position[instrument] + units)
                && !isTooMuch(plan.cash[taker]) && !isTooMuch(plan.cash[defaulter]);
    }

    private void planLayers(int defaulter) {
        plan.startLayers(defaulter);
        plan.bearByOwnContribution(defaulter);
        plan.bearByCapital();
        weighContributions();
        plan.bearByContributions();
        weighCalls();
        plan.bearByCalls();
        plan.leaveTheRest();
    }

    private void weighContributions() {
        for (int m = 0; m < memberCount; m++) {
            plan.shares.weight[m] = members[m].standing == LIVE ? members[m].contribution : 0;
        }
    }

    // The members still hold what their contributions were before layer 2; the plan holds their cash after the bids.
    private void weighCalls() {
        for (int m = 0; m < memberCount; m++) {
            long callable = Math.min(members[m].contribution, Math.max(0, plan.cash[m]));
            plan.shares.weight[m] = members[m].standing == LIVE ? callable : 0;
        }
    }

    private void carryOutPlan(int defaulter) {
        for (int i = 0; i < instrumentCount; i++) {
            if (plan.taker[i] != NONE) {
                members[plan.taker[i]].position[i] += members[defaulter].position[i];
                members[defaulter].position[i] = 0;
            }
        }
        for (int m = 0; m < memberCount; m++) {
            members[m].cash = plan.cash[m];
            members[m].contribution = plan.contribution[m];
        }
        for (int layer = 0; layer < LAYERS; layer++) {
            borne[layer] = plan.borne[layer];
        }
        capitalHeld = plan.capital;
        losses += plan.borne[LOSS];
        members[defaulter].standing = OUT;
    }

    private static final class Member {
        final int[] position = new int[INSTRUMENTS];
        final int[] bid = new int[INSTRUMENTS];
        int standing = LIVE;
        long cash = 0;
        long contribution = 0;
    }

    private static final class Instrument {
        int price = 0;
        int limit = 0;
        int extra = 0;
    }

    // What a closing out would leave, worked out beside the house, so that one that is refused changes nothing.
    private static final class Plan {
        final int[] taker = new int[INSTRUMENTS];
        final long[] cash = new long[MEMBERS];
        final long[] contribution = new long[MEMBERS];
        final long[] borne = new long[LAYERS];
        final Shares shares = new Shares();
        long capital = 0;
        long missing = 0;

        void startLayers(int defaulter) {
            missing = Math.max(0, -cash[defaulter]);
            cash[defaulter] += missing;
            for (int layer = 0; layer < LAYERS; layer++) {
                borne[layer] = 0;
            }
        }

        void bearByOwnContribution(int defaulter) {
            long part = Math.min(missing, contribution[defaulter]);
            contribution[defaulter] -= part;
            bear(OWN_CONTRIBUTION, part);
        }

        void bearByCapital() {
            long part = Math.min(missing, capital);
            capital -= part;
            bear(CAPITAL, part);
        }

        void bearByContributions() {
            shares.split(missing);
            for (int m = 0; m < MEMBERS; m++) {
                contribution[m] -= shares.part[m];
                bear(CONTRIBUTIONS, shares.part[m]);
            }
        }

        void bearByCalls() {
            shares.split(missing);
            for (int m = 0; m < MEMBERS; m++) {
                cash[m] -= shares.part[m];
                bear(CALLS, shares.part[m]);
            }
        }

        void leaveTheRest() {
            bear(LOSS, missing);
        }

        private void bear(int layer, long part) {
            borne[layer] += part;
            missing -= part;
        }
    }

    private static final class Shares {
        final long[] weight = new long[MEMBERS];
        final long[] part = new long[MEMBERS];
        final long[] remainder = new long[MEMBERS];

        void split(long amount) {
            long together = 0;
            for (int m = 0; m < MEMBERS; m++) {
                together += weight[m];
            }
            if (together <= 0 || together <= amount) {
                bearWhole();
            } else {
                bearRounded(amount, together);
            }
        }

        private void bearWhole() {
            for (int m = 0; m < MEMBERS; m++) {
                part[m] = weight[m];
            }
        }

        private void bearRounded(long amount, long together) {
            long left = amount;
            for (int m = 0; m < MEMBERS; m++) {
                roundDown(m, amount, together);
                left -= part[m];
            }
            for (int given = 0; given < MEMBERS && given < left; given++) {
                giveOneMore();
            }
        }

        // Amount times weight can be beyond a long, so the weight comes in by pieces of 16 bits. Weights are at most
        // 10^12 and the amount is below their sum, so no step comes near 2^63.
        private void roundDown(int m, long amount, long together) {
            long quotient = 0;
            long rest = 0;
            for (int shift = 32; shift >= 0; shift -= 16) {
                long piece = (weight[m] >> shift) & 0xFFFF;
                long dividend = (rest << 16) + amount * piece;
                quotient = (quotient << 16) + dividend / together;
                rest = dividend % together;
            }
            part[m] = quotient;
            remainder[m] = rest;
        }

        private void giveOneMore() {
            int greatest = 0;
            for (int m = 1; m < MEMBERS; m++) {
                if (remainder[m] > remainder[greatest]) {
                    greatest = m;
                }
            }
            part[greatest]++;
            // Below every remainder, so that nobody gets a second one.
            remainder[greatest] = -1;
        }
    }
}
