/** Promises 12, 13, 19, 20 and 21: lots, the split, ranks and ties. */
final class OrderTest {
    private OrderTest() {
    }

    static void run() {
        lots();
        ranksByNet();
        stepOne();
        stepOneWithFewerScores();
        stepOneAtEachPlace();
        stepTwo();
        stepTwoInTheMostRaces();
        stepTwoInEachRace();
        stepThreeAndFour();
        tiesThatAreNone();
        splitting();
        splitOfAllBoats();
        splitByTies();
        wrongSplits();
        fleetsComeFirst();
        wrongRanks();
    }

    private static void lots() {
        RegattaOffice office = Make.regatta(3, 0);
        Check.equal("12: at first", office.lot(1, 999), 0);
        Check.equal("12: which it had", office.lot(1, 3), 999);
        Check.equal("12: another boat", office.lot(2, 1), 0);
        for (int lot : new int[] {-1, 1000, Integer.MIN_VALUE, Integer.MAX_VALUE}) {
            Check.fails("12: no such lot", IllegalArgumentException.class, () -> office.lot(1, lot));
            Check.fails("12: the boat comes first", IndexOutOfBoundsException.class, () -> office.lot(3, lot));
        }
        Check.equal("12: 0 is a lot, too", office.lot(1, 0), 3);
        Check.equal("12: 0 again", office.lot(1, 0), 0);
        for (int boat : new int[] {-1, 3, Integer.MIN_VALUE, Integer.MAX_VALUE}) {
            Check.fails("12: no such boat", IndexOutOfBoundsException.class, () -> office.lot(boat, 1));
        }
    }

    private static void ranksByNet() {
        RegattaOffice office = Make.regatta(4, 2);
        Check.equal("20: without races", Make.order(office, 4), "0 1 2 3");
        Make.places(office, 0, 4, 3, 2, 1);
        Check.equal("20: by NET", Make.order(office, 4), "3 2 1 0");
        Check.equal("19: the last", office.rank(0), 4);
        Check.equal("19: the first", office.rank(3), 1);
        Make.places(office, 1, 1, 4, 4, 4);
        Check.equal("20: by the sum", Make.order(office, 4), "3 0 2 1");
        office.discards(2, 1);
        Check.equal("20: by NET, not by GROSS", Make.order(office, 4), "0 3 2 1");
        office.boat();
        Check.equal("20: one more boat", Make.order(office, 5), "0 3 2 1 4");
        office.protest(0, 4, Make.STATED, 0);
        Check.equal("19: right behind a change", office.rank(4), 1);
        office.clear(1, 0);
        Check.equal("20: right behind a change", office.at(5), 0);
    }

    private static void stepOne() {
        RegattaOffice office = Make.regatta(4, 3);
        Make.places(office, 0, 2, 1, 3, 4);
        Make.places(office, 1, 2, 3, 1, 4);
        office.code(2, 0, Make.STATED, 30);
        office.code(2, 1, Make.STATED, 30);
        Check.equal("21: NET differs", office.tie(0, 2), 0);
        office.code(2, 2, Make.STATED, 30);
        Check.equal("16: one NET", office.net(0) + office.net(1) + office.net(2), 3 * 70);
        Check.equal("21: 20 20 30 and 10 30 30", office.tie(0, 1), 1);
        Check.equal("21: the other way round", office.tie(1, 0), 1);
        Check.equal("19: the one with the 10 is before", office.rank(1) < office.rank(0), true);
        office.code(2, 0, Make.STATED, 40);
        office.code(2, 1, Make.STATED, 50);
        office.code(2, 3, Make.STATED, 0);
        Check.equal("21: 20 20 40 and 0 40 40", office.tie(0, 3), 1);
        Check.equal("20: the least scores", office.rank(3) < office.rank(0), true);
    }

    private static void stepOneWithFewerScores() {
        RegattaOffice office = Make.regatta(2, 1);
        int medal = office.race(Make.MEDAL, Make.ALL);
        office.code(0, 0, Make.STATED, 3);
        office.code(0, 1, Make.DNE, 0);
        office.code(medal, 0, Make.STATED, 15);
        office.code(medal, 1, Make.STATED, 0);
        office.discards(1, 1);
        Check.equal("16: 30", office.net(0), 30);
        Check.equal("16: 0 and 30", office.net(1), 30);
        Check.equal("21: 30 and 0 30", office.tie(0, 1), 1);
        Check.equal("19: the one with the 0 is before", office.rank(1), 1);
        office.code(medal, 0, Make.STATED, 0);
        office.code(0, 1, Make.STATED, 7);
        Check.equal("21: 0 and 0, discarded 3 and 7", office.tie(0, 1), 2);
        Check.equal("19: discarded scores part them", office.rank(0), 1);
    }

    /** The first difference at the least score of 16, at the second, .. and at the last but one. */
    private static void stepOneAtEachPlace() {
        for (int place = 0; place < 15; place++) {
            RegattaOffice office = Make.regatta(2, 16);
            for (int race = 0; race < 16; race++) {
                int more = race == place ? -1 : race == place + 1 ? 1 : 0;
                // Not in the order of the races: 5 and 16 have no common divisor.
                office.code(5 * race % 16, 0, Make.STATED, 100 * race + 100);
                office.code(5 * race % 16, 1, Make.STATED, 100 * race + 100 + more);
            }
            office.lot(0, 1);
            Check.equal("21: the first difference at " + place, office.tie(0, 1), 1);
            Check.equal("20: the lesser one is before", Make.order(office, 2), "1 0");
        }
    }

    private static void stepTwo() {
        RegattaOffice office = Make.regatta(3, 3);
        Make.places(office, 0, 1, 2, 3);
        Make.places(office, 1, 2, 1, 3);
        Check.equal("21: 10 20 and 10 20", office.tie(0, 1), 2);
        Check.equal("20: the lesser in the last race", Make.order(office, 3), "1 0 2");
        Make.places(office, 2, 1, 1, 3);
        Check.equal("21: the last race is the same, the one before parts them", office.tie(0, 1), 2);
        Check.equal("20: from the last back", Make.order(office, 3), "1 0 2");
        office.abandon(1, true);
        Check.equal("20: without it", Make.order(office, 3), "0 1 2");
        office.abandon(1, false);
        office.code(2, 0, Make.RET, 0);
        office.code(2, 1, Make.OCS, 0);
        office.discards(3, 1);
        Make.places(office, 1, 1, 1, 1);
        Make.places(office, 0, 1, 1, 1);
        office.code(2, 1, Make.STATED, 39);
        Check.equal("16: NET is one", office.net(0) == office.net(1), true);
        Check.equal("21: discarded scores count in step 2", office.tie(0, 1), 2);
        Check.equal("20: the lesser of them", office.rank(1) < office.rank(0), true);
    }

    private static void stepTwoInTheMostRaces() {
        RegattaOffice office = Make.regatta(2, 16);
        for (int race = 0; race < 16; race++) {
            Make.places(office, race, 1, 1);
        }
        Check.equal("21: all the same", office.tie(0, 1), 4);
        Make.places(office, 0, 1, 2);
        Make.places(office, 1, 2, 1);
        Check.equal("21: the second race of 16", office.tie(0, 1), 2);
        Check.equal("19: the lesser in it", office.rank(1), 1);
        Make.places(office, 1, 1, 1);
        office.discards(16, 1);
        Check.equal("21: the first race of 16", office.tie(0, 1), 0);
        office.code(0, 0, Make.STATED, 15);
        office.code(0, 1, Make.STATED, 16);
        Check.equal("21: the first race of 16, discarded", office.tie(0, 1), 2);
        Check.equal("19: the lesser in it", office.rank(0), 1);
    }

    private static void stepTwoInEachRace() {
        for (int race = 1; race < 16; race++) {
            RegattaOffice office = Make.regatta(2, 16);
            for (int other = 0; other < 16; other++) {
                Make.places(office, other, 1, 1);
            }
            office.finish(0, 0, 2);
            office.finish(race, 1, 2);
            office.lot(1, 1);
            Check.equal("21: the last difference in race " + race, office.tie(0, 1), 2);
            Check.equal("20: the lesser in race " + race, Make.order(office, 2), "0 1");
            office.abandon(race, true);
            office.abandon(0, true);
            Check.equal("21: without both the lots", office.tie(0, 1), 3);
            Check.equal("20: the one with a lot", Make.order(office, 2), "1 0");
        }
    }

    private static void stepThreeAndFour() {
        RegattaOffice office = Make.regatta(4, 1);
        Make.places(office, 0, 5, 5, 5, 5);
        Check.equal("21: the numbers", office.tie(3, 0), 4);
        Check.equal("20: the lower number", Make.order(office, 4), "0 1 2 3");
        office.lot(3, 999);
        Check.equal("21: 0 and 999", office.tie(3, 0), 3);
        Check.equal("20: 0 behind all others", Make.order(office, 4), "3 0 1 2");
        office.lot(2, 1);
        Check.equal("20: the lesser before the greater", Make.order(office, 4), "2 3 0 1");
        Check.equal("21: 1 and 999", office.tie(2, 3), 3);
        Check.equal("21: 0 and 0", office.tie(0, 1), 4);
        office.lot(0, 999);
        Check.equal("21: one lot", office.tie(0, 3), 4);
        Check.equal("20: the lower number of one lot", Make.order(office, 4), "2 0 3 1");
        Check.equal("21: without any race", Make.regatta(2, 0).tie(0, 1), 4);
    }

    private static void tiesThatAreNone() {
        RegattaOffice office = Make.regatta(3, 1);
        Make.places(office, 0, 1, 2, 3);
        Check.equal("21: NET differs", office.tie(0, 2), 0);
        for (int boat : new int[] {-1, 3, Integer.MIN_VALUE, Integer.MAX_VALUE}) {
            Check.fails("21: no such boat a", IndexOutOfBoundsException.class, () -> office.tie(boat, 0));
            Check.fails("21: no such boat b", IndexOutOfBoundsException.class, () -> office.tie(0, boat));
            Check.fails("21: the index comes first", IndexOutOfBoundsException.class,
                    () -> office.tie(boat, boat));
        }
        Check.fails("21: it is one boat", IllegalArgumentException.class, () -> office.tie(2, 2));
        RegattaOffice fleets = Make.regatta(3, 1);
        Make.places(fleets, 0, 1, 1, 1);
        Check.equal("21: one NET in ALL", fleets.tie(0, 1), 4);
        fleets.split(1, 1);
        Check.equal("21: one NET, two fleets", fleets.tie(0, 1), 0);
        Check.equal("21: one NET, two fleets", fleets.tie(2, 1), 0);
    }

    private static void splitting() {
        RegattaOffice office = Make.regatta(7, 1);
        Make.places(office, 0, 7, 6, 5, 4, 3, 2, 1);
        Check.equal("13: the rest", office.split(2, 1), 4);
        int[] due = {3, 3, 3, 3, 2, 1, 1};
        for (int boat = 0; boat < 7; boat++) {
            Check.equal("13: the fleet", office.told(boat, 0), due[boat]);
        }
        Check.equal("20: the order stays", Make.order(office, 7), "6 5 4 3 2 1 0");
        Check.fails("13: it was made", IllegalStateException.class, () -> office.split(1, 1));
        Check.fails("13: it was made comes first", IllegalStateException.class, () -> office.split(0, 0));
        office.race(Make.FINAL, Make.BRONZE);
        office.finish(1, 0, 1);
        Check.equal("14: the size of BRONZE", office.points(1, 1), 50);
        Check.equal("14: not of the others", office.points(1, 6), RegattaOffice.NONE);
        office.finish(0, 0, 1);
        office.clear(0, 6);
        Check.equal("13: fleets stay", office.told(0, 0), 3);
        Check.equal("13: fleets stay", office.told(6, 0), 1);
    }

    private static void splitOfAllBoats() {
        RegattaOffice office = Make.regatta(3, 1);
        office.finish(0, 2, 1);
        Check.equal("13: no BRONZE", office.split(1, 2), 0);
        Check.equal("13: GOLD", office.told(2, 0), 1);
        Check.equal("13: SILVER", office.told(0, 0) + office.told(1, 0), 4);
        int race = office.race(Make.FINAL, Make.BRONZE);
        Check.equal("23: of no boat", office.missing(race, 0), RegattaOffice.NONE);
        Check.fails("5: of no boat", IllegalStateException.class, () -> office.finish(race, 0, 1));
        Check.equal("14: of no boat", office.points(race, 0), RegattaOffice.NONE);
    }

    private static void splitByTies() {
        RegattaOffice office = Make.regatta(4, 1);
        Make.places(office, 0, 1, 1, 1, 1);
        office.lot(3, 5);
        office.lot(2, 6);
        office.split(1, 1);
        Check.equal("13: by rank", office.told(3, 0), 1);
        Check.equal("13: by rank", office.told(2, 0), 2);
        Check.equal("13: by rank", office.told(0, 0), 3);
        office.lot(0, 1);
        Check.equal("13: a lot changes no fleet", office.told(0, 0), 3);
    }

    private static void wrongSplits() {
        RegattaOffice office = Make.regatta(5, 1);
        Check.fails("13: no race is sailed", IllegalStateException.class, () -> office.split(1, 1));
        Check.fails("13: no race is sailed comes first", IllegalStateException.class, () -> office.split(0, 9));
        office.finish(0, 0, 1);
        office.abandon(0, true);
        Check.fails("13: an abandoned race is not sailed", IllegalStateException.class, () -> office.split(1, 1));
        office.abandon(0, false);
        int[][] wrong = {{0, 1}, {1, 0}, {-1, 3}, {3, -1}, {3, 3}, {6, 1}, {1, 5}, {5, 1},
                {Integer.MAX_VALUE, 1}, {1, Integer.MAX_VALUE}, {Integer.MAX_VALUE, Integer.MAX_VALUE},
                {Integer.MIN_VALUE, Integer.MIN_VALUE}, {Integer.MIN_VALUE, 1}};
        for (int[] split : wrong) {
            Check.fails("13: no such split", IllegalArgumentException.class,
                    () -> office.split(split[0], split[1]));
        }
        Check.equal("13: a call that throws changes nothing", office.told(0, 0), 0);
        Check.equal("13: all boats in two", office.split(4, 1), 0);
        Check.fails("13: none of the most races is sailed", IllegalStateException.class,
                () -> Make.regatta(40, 16).split(1, 1));
    }

    private static void fleetsComeFirst() {
        RegattaOffice office = Make.splitRegatta();
        office.protest(0, 4, Make.STATED, 0);
        office.protest(0, 0, Make.DSQ, 0);
        Check.equal("20: fleets, then NET", Make.order(office, 6), "1 0 2 3 4 5");
        Check.equal("19: BRONZE is behind", office.rank(4), 5);
        office.race(Make.FINAL, Make.GOLD);
        office.finish(1, 0, 1);
        office.finish(1, 1, 2);
        Check.equal("20: however much GOLD has", Make.order(office, 6), "1 0 2 3 4 5");
    }

    private static void wrongRanks() {
        RegattaOffice office = Make.regatta(3, 1);
        for (int rank : new int[] {0, 4, -1, Integer.MIN_VALUE, Integer.MAX_VALUE}) {
            Check.fails("20: no such rank", IndexOutOfBoundsException.class, () -> office.at(rank));
        }
        for (int boat : new int[] {-1, 3, Integer.MIN_VALUE, Integer.MAX_VALUE}) {
            Check.fails("19: no such boat", IndexOutOfBoundsException.class, () -> office.rank(boat));
        }
        Check.fails("20: no boats", IndexOutOfBoundsException.class, () -> Make.regatta(0, 1).at(1));
    }
}
