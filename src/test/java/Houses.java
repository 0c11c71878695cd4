/** Houses that tests begin with. */
final class Houses {
    private Houses() {
    }

    static House withMembers(long... contributions) {
        House house = new House();
        for (long contribution : contributions) {
            house.member(contribution);
        }
        return house;
    }

    /** Members 0 to 7, who contributed 10, 20 .. 80. */
    static House eightMembers() {
        return withMembers(10, 20, 30, 40, 50, 60, 70, 80);
    }

    /** Instruments 0 to 5 at 100, without extra up to the greatest position. */
    static void addSixInstruments(House house) {
        for (int i = 0; i <= 5; i++) {
            house.instrument(100, 1_000_000, 0);
        }
    }

    static House sixInstruments() {
        House house = new House();
        addSixInstruments(house);
        return house;
    }

    static House full() {
        House house = eightMembers();
        addSixInstruments(house);
        return house;
    }

    /**
     * Three members, who contributed 10, 20 and 30, and two instruments at 100; 0 has bought 4 of either from 2, and
     * has 50 in cash where its margin is 80.
     */
    static House withOneCalled() {
        House house = withMembers(10, 20, 30);
        house.instrument(100, 1_000_000, 0);
        house.instrument(100, 1_000_000, 0);
        house.deposit(0, 50);
        house.trade(0, 2, 0, 4, 100);
        house.trade(0, 2, 1, 4, 100);
        house.move(0, 0, -20);
        return house;
    }

    static House withOneInDefault() {
        House house = withOneCalled();
        house.declare();
        return house;
    }

    static House withOneOut() {
        House house = withOneInDefault();
        house.closeOut(0);
        return house;
    }

    /** Trades of at most 100000 units each until so many have gone from seller to buyer, all at the price given. */
    static void tradeMany(House house, int buyer, int seller, int instrument, int units, int price) {
        for (int left = units; left > 0; left -= Edges.MOST_TRADED) {
            house.trade(buyer, seller, instrument, Math.min(left, Edges.MOST_TRADED), price);
        }
    }
}
