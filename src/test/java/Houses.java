/** Houses that tests begin with, and what a house tells. */
final class Houses {
    static final long MOST_PAID = 1_000_000_000_000L;

    private Houses() {
    }

    static MarginHouse withMembers(long... contributions) {
        MarginHouse house = new MarginHouse();
        for (long contribution : contributions) {
            house.member(contribution);
        }
        return house;
    }

    /** Trades of at most 100000 units each until so many have gone from seller to buyer, all at the price given. */
    static void tradeMany(MarginHouse house, int buyer, int seller, int instrument, int units, int price) {
        for (int left = units; left > 0; left -= 100_000) {
            house.trade(buyer, seller, instrument, Math.min(left, 100_000), price);
        }
    }

    /** All that the house tells of itself and of its members, as one text. */
    static String seen(MarginHouse house) {
        StringBuilder text = new StringBuilder();
        for (int what = 0; what <= 5; what++) {
            text.append("all").append(what).append('=').append(house.all(what)).append(' ');
        }
        for (int layer = 0; layer <= 4; layer++) {
            text.append("bore").append(layer).append('=').append(house.bore(layer)).append(' ');
        }
        for (int m = 0; m < 8 && isMember(house, m); m++) {
            text.append("| member").append(m).append(' ');
            for (int what = 0; what <= 2; what++) {
                text.append(house.told(m, what)).append(' ');
            }
            text.append("margin ").append(house.margin(m)).append(" called ").append(house.called(m)).append(" units");
            for (int i = 0; i < 6 && isInstrument(house, i); i++) {
                text.append(' ').append(house.position(m, i));
            }
        }
        return text.toString();
    }

    private static boolean isMember(MarginHouse house, int member) {
        try {
            house.margin(member);
            return true;
        } catch (IllegalArgumentException e) {
            return false;
        }
    }

    private static boolean isInstrument(MarginHouse house, int instrument) {
        try {
            house.position(0, instrument);
            return true;
        } catch (IllegalArgumentException e) {
            return false;
        }
    }
}
