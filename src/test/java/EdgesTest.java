/**
 * Empty and full, none and all, equal and just not: the edges of the Terms besides numbers out of bounds (NumbersTest)
 * and points (PointsTest).
 */
final class EdgesTest {
    private EdgesTest() {
    }

    static void run() {
        nothingAtAll();
        boatsWithoutRaces();
        racesWithoutBoats();
        lotsAtFirst();
        fleetsOnBothSidesOfTheSplit();
        raceOfAnEmptyFleet();
        entryThatCounts();
        reopenedOnceAndForEver();
        sailedByOneEntry();
        seriesInTheirOrder();
        allowedFromSoManyOn();
        allowedByTheLastStep();
        allIfThereAreFewer();
        ofEqualOnesTheEarlier();
        noMedalAndNoDne();
        leftOutOfSixteen();
        greatestSums();
        meanOfTheSeries();
        missingNoneAndAll();
        supposedAtTheEdges();
        theLastOfTheCalls();
    }

    private static void nothingAtAll() {
        RegattaOffice office = new RegattaOffice();
        Check.fails("13: no race is sailed", IllegalStateException.class, () -> office.split(1, 1));
        Check.equal("25: an empty sheet", office.sheet(), 0);
        Check.fails("26: it has no byte", IndexOutOfBoundsException.class, () -> office.sheetByte(0));
        Check.equal("2: the first boat", office.boat(), 0);
        Check.equal("3: the first race", office.race(2, 0), 0);
        Check.equal("9: the first decision", office.protest(0, 0, Make.DNS, 0), 0);
        Check.works("11: the first step", () -> office.discards(1, 1));
    }

    private static void boatsWithoutRaces() {
        RegattaOffice office = Make.regatta(2, 0);
        office.discards(1, 1);
        Check.equal("16: NET", office.net(1), 0);
        Check.equal("17: GROSS", office.gross(1), 0);
        Check.equal("18: the mean", office.mean(1), 0.0);
        Check.equal("24: races of its series", office.told(1, 2), 0);
        Check.equal("24: discarded ones", office.told(1, 3), 0);
        Check.equal("19: ranks by number", office.rank(1), 2);
        Check.equal("21: parted by number", office.tie(1, 0), 4);
        Check.equal("25: lines without scores", Make.sheet(office), "1. 0 0.0 (0.0)\n2. 1 0.0 (0.0)\n");
    }

    private static void racesWithoutBoats() {
        RegattaOffice office = Make.regatta(0, 16);
        Check.equal("23: nobody is missing", office.missing(15, 0), RegattaOffice.NONE);
        Check.equal("4: an empty race is abandoned", office.abandon(15, true), false);
        Check.equal("4: it was so", office.abandon(15, true), true);
        Check.equal("25: no line", office.sheet(), 0);
        Check.fails("20: no rank", IndexOutOfBoundsException.class, () -> office.at(1));
        Check.fails("20: no rank 0 either", IndexOutOfBoundsException.class, () -> office.at(0));
        Check.fails("13: no race is sailed", IllegalStateException.class, () -> office.split(1, 1));
    }

    private static void lotsAtFirst() {
        RegattaOffice office = Make.regatta(40, 0);
        for (int boat = 0; boat < 40; boat++) {
            Check.equal("12: at first 0", office.lot(boat, 40 - boat), 0);
        }
        Check.equal("20: the lesser before the greater", office.at(1), 39);
        Check.equal("20: the greatest behind", office.at(40), 0);
        office.lot(39, 0);
        Check.equal("20: 0 behind all others", office.at(40), 39);
        office.lot(38, 0);
        Check.equal("20: of two without a lot the lower number", office.at(39), 38);
        Check.equal("21: 0 and 0 are one lot", office.tie(38, 39), 4);
        Check.equal("21: 0 and 40 are two", office.tie(39, 0), 3);
        office.lot(0, 999);
        Check.equal("20: 999 before 0", office.at(38), 0);
    }

    private static void fleetsOnBothSidesOfTheSplit() {
        RegattaOffice office = Make.regatta(40, 1);
        for (int boat = 0; boat < 40; boat++) {
            office.finish(0, boat, boat + 1);
            Check.equal("24: all boats are in ALL", office.told(boat, 0), 0);
        }
        Check.equal("13: how many the last ones are", office.split(13, 14), 13);
        for (int boat = 0; boat < 40; boat++) {
            Check.equal("24: the fleet of boat " + boat, office.told(boat, 0), boat < 13 ? 1 : boat < 27 ? 2 : 3);
        }
    }

    private static void raceOfAnEmptyFleet() {
        RegattaOffice office = Make.regatta(2, 1);
        office.finish(0, 0, 1);
        Check.equal("13: BRONZE is empty", office.split(1, 1), 0);
        int empty = office.race(Make.MEDAL, Make.BRONZE);
        Check.equal("3: a race of no boat", empty, 1);
        Check.equal("23: nobody is missing", office.missing(empty, 0), RegattaOffice.NONE);
        Check.equal("4: it can be abandoned", office.abandon(empty, true), false);
        Check.equal("8: nothing is cleared", office.clear(empty, 0), false);
        Check.fails("7: nothing is put in", IllegalStateException.class, () -> office.penalty(empty, 0, 0));
        Check.fails("9: it is not of it", IllegalStateException.class,
                () -> office.protest(empty, 0, Make.DNS, 0));
        Check.fails("22: it is not of it", IllegalStateException.class, () -> office.what(empty, 1, Make.DNS, 0));
        Check.equal("15: not discarded", office.isDiscard(empty, 0), false);
        Check.equal("24: of no series", office.told(0, 2), 1);
    }

    private static void entryThatCounts() {
        RegattaOffice office = Make.regatta(2, 1);
        office.code(0, 0, Make.STATED, 100);
        office.protest(0, 0, Make.STATED, 101);
        office.protest(0, 1, Make.STATED, 200);
        office.protest(0, 0, Make.STATED, 102);
        Check.equal("9: the latest", office.points(0, 0), 102);
        office.reopen(2);
        Check.equal("10: the latest that is not reopened", office.points(0, 0), 101);
        office.code(0, 0, Make.STATED, 103);
        Check.equal("6: what is put in later is under it", office.points(0, 0), 101);
        office.reopen(0);
        Check.equal("10: without one that which was put in", office.points(0, 0), 103);
        Check.equal("9: the other boat has its own", office.points(0, 1), 200);
        Check.equal("8: it was put in", office.clear(0, 0), true);
        Check.equal("14: else none", office.points(0, 0), 30);
        Check.equal("23: none counts", office.missing(0, 0), 0);
        office.reopen(1);
        Check.equal("14: none of both", office.points(0, 1), RegattaOffice.NONE);
    }

    private static void reopenedOnceAndForEver() {
        RegattaOffice office = Make.regatta(1, 1);
        Check.equal("9: the first", office.protest(0, 0, Make.STATED, 7), 0);
        office.reopen(0);
        Check.fails("10: once", IllegalStateException.class, () -> office.reopen(0));
        Check.equal("9: one like it is another one", office.protest(0, 0, Make.STATED, 7), 1);
        Check.fails("10: for ever", IllegalStateException.class, () -> office.reopen(0));
        office.clear(0, 0);
        office.abandon(0, true);
        office.abandon(0, false);
        Check.fails("10: for ever", IllegalStateException.class, () -> office.reopen(0));
        Check.works("10: the other one", () -> office.reopen(1));
        Check.equal("14: both are", office.points(0, 0), RegattaOffice.NONE);
    }

    private static void sailedByOneEntry() {
        RegattaOffice office = Make.regatta(40, 1);
        Check.equal("14: none counts", office.points(0, 0), RegattaOffice.NONE);
        for (int boat : new int[] {0, 39}) {
            office.code(0, boat, Make.DNS, 0);
            Check.equal("14: one is enough", office.points(0, 1), 410);
            office.clear(0, boat);
            Check.equal("14: it went", office.points(0, 1), RegattaOffice.NONE);
            int decision = office.protest(0, boat, Make.DNS, 0);
            Check.equal("14: a decision is enough", office.points(0, 1), 410);
            office.abandon(0, true);
            Check.equal("14: not when it is abandoned", office.points(0, 1), RegattaOffice.NONE);
            office.abandon(0, false);
            Check.equal("14: it is no longer", office.points(0, 1), 410);
            office.reopen(decision);
            Check.equal("14: a reopened one is not", office.points(0, 1), RegattaOffice.NONE);
        }
    }

    private static void seriesInTheirOrder() {
        RegattaOffice office = Make.regatta(1, 16);
        for (int race = 15; race >= 0; race--) {
            office.code(race, 0, Make.STATED, 10 * race);
        }
        office.abandon(7, true);
        Check.equal("24: all but the abandoned one", office.told(0, 2), 15);
        Check.equal("25: by their numbers", Make.sheet(office), "1. 0 113.0 (113.0) 0.0RDG 1.0RDG 2.0RDG 3.0RDG"
                + " 4.0RDG 5.0RDG 6.0RDG 8.0RDG 9.0RDG 10.0RDG 11.0RDG 12.0RDG 13.0RDG 14.0RDG 15.0RDG\n");
        office.abandon(0, true);
        office.abandon(15, true);
        Check.equal("24: without the first and the last", office.told(0, 2), 13);
        Check.equal("15: not of its series", office.isDiscard(15, 0), false);
    }

    private static void allowedFromSoManyOn() {
        for (int from = 1; from <= 16; from++) {
            RegattaOffice office = Make.regatta(1, 16);
            office.discards(from, 1);
            for (int race = 0; race < 16; race++) {
                office.finish(race, 0, 1);
                Check.equal("11: from " + from + " on, of " + (race + 1), office.told(0, 3),
                        race + 1 < from ? 0 : 1);
            }
        }
    }

    private static void allowedByTheLastStep() {
        RegattaOffice office = Make.regatta(1, 16);
        int[][] steps = {{2, 1}, {3, 2}, {6, 3}, {7, 5}, {12, 8}, {16, 15}};
        for (int[] step : steps) {
            office.discards(step[0], step[1]);
        }
        int[] due = {0, 1, 2, 2, 2, 3, 5, 5, 5, 5, 5, 8, 8, 8, 8, 15};
        for (int race = 0; race < 16; race++) {
            office.finish(race, 0, 1);
            Check.equal("11: six steps, of " + (race + 1), office.told(0, 3), due[race]);
        }
        office.abandon(3, true);
        Check.equal("11: 15 again", office.told(0, 3), 8);
        Check.equal("11: without a step", Make.after(one -> {
            Make.fill(one, 1, 1);
            one.finish(0, 0, 1);
        }).told(0, 3), 0);
    }

    private static void allIfThereAreFewer() {
        RegattaOffice office = Make.regatta(2, 3);
        for (int race = 0; race < 3; race++) {
            Make.places(office, race, 1, 2);
        }
        office.discards(3, 2);
        Check.equal("15: one more than allowed", office.told(0, 3), 2);
        Check.equal("16: the last of equal ones is kept", office.net(0), 10);
        office.code(0, 0, Make.DNE, 0);
        Check.equal("15: just as many as allowed", office.told(0, 3), 2);
        Check.equal("16: the DNE is kept", office.net(0), 30);
        office.code(1, 0, Make.DNE, 0);
        Check.equal("15: one fewer than allowed", office.told(0, 3), 1);
        Check.equal("16: both are kept", office.net(0), 60);
        office.code(2, 0, Make.DNE, 0);
        Check.equal("15: none can be", office.told(0, 3), 0);
        Check.equal("16: all are kept", office.net(0), 90);
        office.discards(4, 3);
        Check.equal("15: two of the other boat's", office.told(1, 3), 2);
        RegattaOffice none = Make.regatta(1, 1);
        none.finish(0, 0, 1);
        none.discards(1, 15);
        Check.equal("15: the only one", none.isDiscard(0, 0), true);
        Check.equal("16: nothing is kept", none.net(0), 0);
        Check.equal("17: GROSS is", none.gross(0), 10);
    }

    private static void ofEqualOnesTheEarlier() {
        RegattaOffice office = Make.regatta(1, 16);
        for (int race = 0; race < 16; race++) {
            office.code(race, 0, Make.STATED, 50);
        }
        office.discards(1, 3);
        checkDiscards(office, "XXX.............");
        office.code(9, 0, Make.STATED, 51);
        checkDiscards(office, "XX.......X......");
        office.code(15, 0, Make.STATED, 51);
        checkDiscards(office, "X........X.....X");
        office.code(12, 0, Make.STATED, 52);
        checkDiscards(office, ".........X..X..X");
        office.code(3, 0, Make.STATED, 51);
        checkDiscards(office, "...X.....X..X...");
        office.code(0, 0, Make.STATED, 49);
        office.code(1, 0, Make.STATED, 0);
        office.discards(2, 13);
        checkDiscards(office, "..XXXXXXXXXXXX.X");
        office.discards(16, 15);
        checkDiscards(office, "X.XXXXXXXXXXXXXX");
    }

    private static void checkDiscards(RegattaOffice office, String due) {
        StringBuilder found = new StringBuilder();
        for (int race = 0; race < 16; race++) {
            found.append(office.isDiscard(race, 0) ? 'X' : '.');
        }
        Check.equal("15: of equal ones the earlier", found.toString(), due);
    }

    private static void noMedalAndNoDne() {
        RegattaOffice office = Make.regatta(1, 2);
        int medal = office.race(Make.MEDAL, Make.ALL);
        office.finish(0, 0, 1);
        office.code(1, 0, Make.STATED, 5);
        office.code(medal, 0, Make.STATED, 9999);
        office.discards(1, 1);
        Check.equal("15: the MEDAL race is not", office.isDiscard(medal, 0), false);
        Check.equal("15: the next greatest is", office.isDiscard(0, 0), true);
        office.protest(0, 0, Make.DNE, 0);
        Check.equal("15: a DNE is not", office.isDiscard(0, 0), false);
        Check.equal("15: the next is", office.isDiscard(1, 0), true);
        office.reopen(0);
        Check.equal("15: it is no DNE any longer", office.isDiscard(0, 0), true);
        office.code(0, 0, Make.DNE, 0);
        Check.equal("15: a DNE that is put in", office.isDiscard(0, 0), false);
        int[][] others = {{Make.PLACE, 1}, {Make.DNS, 0}, {Make.OCS, 0}, {Make.RET, 0}, {Make.DSQ, 0},
                {Make.AVERAGE, 0}, {Make.STATED, 99}};
        for (int[] entry : others) {
            office.protest(0, 0, entry[0], entry[1]);
            Check.equal("15: a decision on it, code " + entry[0], office.isDiscard(0, 0), true);
        }
    }

    private static void leftOutOfSixteen() {
        RegattaOffice office = Make.regatta(2, 16);
        for (int race = 0; race < 16; race++) {
            office.finish(race, 0, 1);
        }
        office.discards(16, 15);
        Check.equal("24: 15 of 16", office.told(0, 3), 15);
        Check.equal("16: the last of equal ones is left", office.net(0), 10);
        Check.equal("16: none's are left out, too", office.net(1), 30);
        Check.equal("17: all of them", office.gross(1), 16 * 30);
        office.abandon(0, true);
        Check.equal("24: none of 15", office.told(0, 3), 0);
    }

    /** 16 MEDAL races with the most there may be stated: no sum may wrap around or be cut. */
    private static void greatestSums() {
        RegattaOffice office = Make.regatta(2, 0);
        for (int race = 0; race < 16; race++) {
            office.race(Make.MEDAL, Make.ALL);
            office.code(race, 1, Make.STATED, 9999);
        }
        office.discards(1, 15);
        Check.equal("14: points", office.points(15, 1), 9999);
        Check.equal("17: GROSS", office.gross(1), 16 * 2 * 9999);
        Check.equal("16: NET", office.net(1), 16 * 2 * 9999);
        Check.equal("18: the mean", office.mean(1), 1999.8);
        Check.equal("16: DNC", office.net(0), 16 * 2 * 30);
        Check.equal("25: the sheet", Make.sheet(office), "1. 0 96.0 (96.0)" + " 6.0DNC".repeat(16)
                + "\n2. 1 31996.8 (31996.8)" + " 1999.8RDG".repeat(16) + "\n");
    }

    private static void meanOfTheSeries() {
        RegattaOffice office = Make.regatta(1, 16);
        int gross = 0;
        for (int race = 0; race < 16; race++) {
            int stated = race * race * 37 % 101;
            gross += stated;
            office.code(race, 0, Make.STATED, stated);
            Check.equal("18: of " + (race + 1) + " races", office.mean(0), (double) gross / (10 * (race + 1)));
        }
        office.discards(1, 15);
        Check.equal("18: GROSS, not NET", office.mean(0), (double) gross / 160);
        RegattaOffice zero = Make.regatta(1, 1);
        zero.code(0, 0, Make.STATED, 0);
        Check.equal("18: of a 0", zero.mean(0), 0.0);
        zero.code(0, 0, Make.STATED, 1);
        Check.equal("18: of a tenth", zero.mean(0), 0.1);
    }

    private static void missingNoneAndAll() {
        RegattaOffice office = Make.regatta(3, 1);
        for (int k = 0; k < 3; k++) {
            Check.equal("23: all are missing", office.missing(0, k), k);
        }
        Check.equal("23: no more than all", office.missing(0, 3), RegattaOffice.NONE);
        Make.places(office, 0, 1, 2, 3);
        Check.equal("23: none is missing", office.missing(0, 0), RegattaOffice.NONE);
        office.clear(0, 2);
        Check.equal("23: the last one alone", office.missing(0, 0), 2);
        Check.equal("23: no other", office.missing(0, 1), RegattaOffice.NONE);
        office.boat();
        Check.equal("23: a new boat is, too", office.missing(0, 1), 3);
    }

    private static void supposedAtTheEdges() {
        RegattaOffice office = Make.regatta(2, 2);
        office.discards(2, 1);
        office.finish(0, 0, 1);
        Check.equal("22: a race that was not sailed", office.what(1, 0, Make.DNE, 0), 30);
        Check.equal("22: it is not sailed", office.points(1, 1), RegattaOffice.NONE);
        Check.equal("22: a step is reached", office.what(1, 0, Make.DNS, 0), 10);
        Check.equal("22: the greatest", office.what(0, 0, Make.STATED, 9999), 9999);
        Check.equal("22: the least", office.what(0, 0, Make.STATED, 0), 0);
        office.protest(0, 0, Make.DSQ, 0);
        Check.equal("22: over a decision", office.what(0, 0, Make.PLACE, 99), 10);
        Check.equal("22: which stands", office.net(0), 30);
        office.reopen(0);
        Check.equal("22: over a reopened one", office.what(0, 0, Make.STATED, 8), 8);
        Check.equal("22: which stays reopened", office.net(0), 10);
        office.penalty(0, 0, 100);
        Check.equal("22: a decided place has no penalty", office.what(0, 0, Make.PLACE, 1), 10);
        Check.equal("22: the penalty stays", office.net(0), 30);
    }

    /** 512 calls are promised: the last of them answers like the others. */
    private static void theLastOfTheCalls() {
        RegattaOffice office = Make.regatta(40, 16);
        int calls = 40 + 16;
        for (int step = 1; step <= 6; step++) {
            office.discards(step, step);
            calls++;
        }
        for (int decision = 0; decision < 40; decision++) {
            office.protest(15, decision, Make.STATED, decision);
            calls++;
        }
        for (int cell = 0; calls < 511; cell++) {
            office.finish(cell / 40, cell % 40, 1 + cell % 40);
            calls++;
        }
        Check.equal("16: behind 511 others: ten times 400, 410 and 39, less the 410 and five of the 400",
                office.net(39), 5 * 400 + 39);
    }
}
