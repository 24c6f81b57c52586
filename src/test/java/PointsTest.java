/** "Points": places, penalties, codes and averages at the edges that the Terms name. */
final class PointsTest {
    private PointsTest() {
    }

    static void run() {
        lowerPlacesAlone();
        deadHeats();
        placesThatCount();
        penaltyRounded();
        penaltyOfTheSizeNow();
        penaltyUpToTheMost();
        noPenaltyOfADecision();
        lastPoints();
        statedPoints();
        averageOfNone();
        averageOfOne();
        averageRounded();
        averageOfTheOthers();
        averageTakesNone();
        averageTakesNoRedress();
        averageOfTheSeriesAlone();
        averageOfPointsNotScores();
        beforeOfLowerNumbers();
        averageOfFifteen();
    }

    private static void lowerPlacesAlone() {
        RegattaOffice office = Make.regatta(40, 1);
        for (int boat = 0; boat < 40; boat++) {
            office.finish(0, boat, 99 - boat);
        }
        Check.equal("5: no lower place", office.points(0, 39), 10);
        Check.equal("5: one lower place", office.points(0, 38), 20);
        Check.equal("5: 38 lower places", office.points(0, 1), 390);
        Check.equal("5: 39 lower places", office.points(0, 0), 400);
    }

    private static void deadHeats() {
        RegattaOffice office = Make.regatta(40, 1);
        office.finish(0, 0, 50);
        Check.equal("5: itself alone", office.points(0, 0), 10);
        for (int boat = 1; boat < 39; boat++) {
            office.finish(0, boat, 50);
        }
        office.finish(0, 39, 51);
        Check.equal("5: 39 with the same place", office.points(0, 0), 10 + 5 * 38);
        Check.equal("5: all others are lower", office.points(0, 39), 400);
        office.finish(0, 39, 50);
        Check.equal("5: all 40 with the same place", office.points(0, 39), 10 + 5 * 39);
        office.finish(0, 39, 49);
        office.finish(0, 38, 49);
        Check.equal("5: two in front", office.points(0, 38), 15);
        Check.equal("5: 38 behind two", office.points(0, 0), 30 + 5 * 37);
    }

    private static void placesThatCount() {
        RegattaOffice office = Make.regatta(4, 2);
        Make.places(office, 0, 1, 1, 2, 3);
        Make.places(office, 1, 3, 3, 3, 3);
        int first = office.protest(0, 0, Make.DSQ, 0);
        Check.equal("5: a place under a decision is no place", office.points(0, 1), 10);
        Check.equal("5: nor a lower one", office.points(0, 2), 20);
        office.protest(0, 3, Make.PLACE, 1);
        Check.equal("5: a decided place is one", office.points(0, 1), 15);
        Check.equal("5: and a lower one", office.points(0, 2), 30);
        office.reopen(first);
        Check.equal("5: it counts again", office.points(0, 1), 20);
        Check.equal("5: it is lower again", office.points(0, 2), 40);
        office.code(0, 1, Make.STATED, 1);
        Check.equal("5: a number is no place", office.points(0, 2), 30);
    }

    private static void penaltyRounded() {
        int[][] due = {{1, 4, 10}, {1, 5, 11}, {1, 14, 11}, {1, 15, 12}, {1, 94, 19}, {1, 95, 20},
                {3, 1, 10}, {3, 2, 11}, {3, 4, 11}, {3, 5, 12}, {7, 2, 11}, {7, 3, 12}, {7, 5, 14}, {7, 35, 35},
                {10, 1, 11}, {39, 1, 14}, {40, 1, 14}};
        for (int[] row : due) {
            RegattaOffice office = Make.regatta(row[0], 1);
            office.finish(0, 0, 1);
            office.penalty(0, 0, row[1]);
            Check.equal("7: " + row[1] + " percent of " + row[0] + " boats", office.points(0, 0), row[2]);
        }
    }

    private static void penaltyOfTheSizeNow() {
        RegattaOffice office = Make.regatta(1, 1);
        office.finish(0, 0, 1);
        office.penalty(0, 0, 50);
        Check.equal("7: 5 more", office.points(0, 0), 15);
        office.boat();
        Check.equal("7: 10 more, as a boat has come", office.points(0, 0), 20);
        office.boat();
        Check.equal("7: 15 more, as another has come", office.points(0, 0), 25);
        office.split(1, 1);
        int gold = office.race(Make.FINAL, Make.GOLD);
        office.finish(gold, 0, 1);
        office.penalty(gold, 0, 50);
        Check.equal("7: 5 more, as GOLD is one boat", office.points(gold, 0), 15);
        Check.equal("7: a race of ALL is of all still", office.points(0, 0), 25);
    }

    private static void penaltyUpToTheMost() {
        RegattaOffice office = Make.regatta(5, 1);
        Make.places(office, 0, 1, 2, 3, 4, 5);
        int[][] due = {{0, 99, 60}, {0, 98, 59}, {0, 100, 60}, {3, 37, 59}, {3, 38, 59}, {3, 39, 60}, {3, 40, 60},
                {3, 41, 60}, {3, 100, 60}, {4, 18, 59}, {4, 19, 60}, {4, 20, 60}, {4, 100, 60}};
        for (int[] row : due) {
            office.penalty(0, row[0], row[1]);
            Check.equal("7: boat " + row[0] + " with " + row[1], office.points(0, row[0]), row[2]);
        }
        RegattaOffice one = Make.regatta(1, 1);
        one.finish(0, 0, 1);
        one.penalty(0, 0, 100);
        Check.equal("7: 10 and 10, just the most", one.points(0, 0), 20);
        RegattaOffice full = Make.regatta(40, 1);
        full.finish(0, 0, 1);
        full.penalty(0, 0, 100);
        Check.equal("7: 10 and 400, just the most", full.points(0, 0), 410);
        full.finish(0, 1, 1);
        Check.equal("7: 15 and 400 are above it", full.points(0, 0), 410);
        Check.equal("7: the other has no penalty", full.points(0, 1), 15);
    }

    private static void noPenaltyOfADecision() {
        RegattaOffice office = Make.regatta(10, 1);
        office.finish(0, 0, 1);
        office.penalty(0, 0, 50);
        office.protest(0, 0, Make.PLACE, 1);
        Check.equal("9: without the penalty of the place under it", office.points(0, 0), 10);
        office.reopen(0);
        Check.equal("10: with it again", office.points(0, 0), 60);
        office.code(0, 0, Make.DNS, 0);
        office.finish(0, 0, 1);
        Check.equal("5: a place comes without the one before", office.points(0, 0), 10);
        office.penalty(0, 0, 50);
        office.clear(0, 0);
        office.finish(0, 0, 1);
        Check.equal("8: the penalty went, too", office.points(0, 0), 10);
    }

    private static void lastPoints() {
        for (int boats : new int[] {1, 2, 39, 40}) {
            RegattaOffice office = Make.regatta(boats, 2);
            for (int code = Make.DNS; code <= Make.DNE; code++) {
                office.code(0, 0, code, 0);
                Check.equal("6: code " + code + " of " + boats, office.points(0, 0), 10 * boats + 10);
            }
            office.protest(1, boats - 1, Make.STATED, 0);
            if (boats > 1) {
                Check.equal("14: none of " + boats, office.points(1, 0), 10 * boats + 10);
            }
        }
    }

    private static void statedPoints() {
        RegattaOffice office = Make.regatta(1, 1);
        for (int stated : new int[] {0, 20, 21, 9999}) {
            office.code(0, 0, Make.STATED, stated);
            Check.equal("6: the argument, whatever N is", office.points(0, 0), stated);
        }
    }

    private static void averageOfNone() {
        for (int boats : new int[] {1, 2, 39, 40}) {
            for (int code : new int[] {Make.AVERAGE, Make.BEFORE}) {
                RegattaOffice office = Make.regatta(boats, 2);
                office.code(0, 0, code, 0);
                Check.equal("6: 5 N of " + boats, office.points(0, 0), 5 * boats);
                office.code(1, 0, Make.STATED, 9999);
                Check.equal("6: 5 N of " + boats + ", redress is none", office.points(0, 0), 5 * boats);
            }
        }
        RegattaOffice office = Make.splitRegatta();
        office.code(0, 0, Make.DNS, 0);
        office.abandon(0, true);
        int gold = office.race(Make.FINAL, Make.GOLD);
        office.code(gold, 0, Make.AVERAGE, 0);
        Check.equal("6: 5 N of a fleet of two", office.points(gold, 0), 10);
        office.protest(0, 0, Make.BEFORE, 0);
        office.abandon(0, false);
        Check.equal("6: 5 N of all six", office.points(0, 0), 30);
    }

    private static void averageOfOne() {
        RegattaOffice office = Make.regatta(3, 2);
        Make.places(office, 0, 1, 2, 3);
        office.code(1, 0, Make.AVERAGE, 0);
        office.code(1, 1, Make.BEFORE, 0);
        Check.equal("6: AVERAGE of one", office.points(1, 0), 10);
        Check.equal("6: BEFORE of one", office.points(1, 1), 20);
    }

    /** The boat's places are 1 with so many boats of the same place beside it: 10, 15, 20 points. */
    private static void averageRounded() {
        int[][] sums = {{10, 10, 10}, {10, 15, 13}, {15, 20, 18}, {10, 20, 15}, {20, 20, 20}};
        for (int[] row : sums) {
            Check.equal("6: of " + row[0] + " and " + row[1], averageOf(row[0], row[1]), row[2]);
        }
        Check.equal("6: 40 / 3, 13.3", averageOf(10, 10, 20), 13);
        Check.equal("6: 35 / 3, 11.7", averageOf(10, 10, 15), 12);
        Check.equal("6: 45 / 3", averageOf(10, 15, 20), 15);
        Check.equal("6: 45 / 4, 11.25", averageOf(10, 10, 10, 15), 11);
        Check.equal("6: 50 / 4, 12.5", averageOf(10, 10, 10, 20), 13);
        Check.equal("6: 55 / 4, 13.75", averageOf(10, 10, 15, 20), 14);
        Check.equal("6: 65 / 6, 10.8", averageOf(10, 10, 10, 10, 10, 15), 11);
        Check.equal("6: 75 / 7, 10.7", averageOf(10, 10, 10, 10, 10, 10, 15), 11);
        Check.equal("6: 95 / 9, 10.56", averageOf(10, 10, 10, 10, 10, 10, 10, 10, 15), 11);
        Check.equal("6: 105 / 10, 10.5", averageOf(10, 10, 10, 10, 10, 10, 10, 10, 10, 15), 11);
        Check.equal("6: 115 / 11, 10.45", averageOf(10, 10, 10, 10, 10, 10, 10, 10, 10, 10, 15), 10);
    }

    private static int averageOf(int... points) {
        RegattaOffice office = Make.regatta(3, points.length + 1);
        for (int race = 0; race < points.length; race++) {
            office.finish(race, 0, 1);
            for (int other = 1; other <= (points[race] - 10) / 5; other++) {
                office.finish(race, other, 1);
            }
        }
        office.code(points.length, 0, Make.AVERAGE, 0);
        int average = office.points(points.length, 0);
        office.code(points.length, 0, Make.BEFORE, 0);
        Check.equal("6: BEFORE of the same races", office.points(points.length, 0), average);
        return average;
    }

    private static void averageOfTheOthers() {
        RegattaOffice office = Make.regatta(2, 3);
        Make.places(office, 0, 1, 2);
        Make.places(office, 2, 2, 1);
        office.code(1, 0, Make.AVERAGE, 0);
        Check.equal("6: of the race before and the one behind", office.points(1, 0), 15);
        office.protest(0, 0, Make.AVERAGE, 0);
        Check.equal("6: of the one behind alone", office.points(1, 0), 20);
        Check.equal("6: two averages of the same race", office.points(0, 0), 20);
        office.penalty(2, 0, 50);
        Check.equal("6: with its penalty", office.points(0, 0), 30);
    }

    private static void averageTakesNone() {
        RegattaOffice office = Make.regatta(3, 3);
        office.finish(0, 1, 1);
        office.finish(1, 0, 1);
        office.code(2, 0, Make.AVERAGE, 0);
        Check.equal("6: of none's 40 and 10", office.points(2, 0), 25);
        for (int code = Make.DNS; code <= Make.DNE; code++) {
            office.code(0, 0, code, 0);
            Check.equal("6: of code " + code + " and 10", office.points(2, 0), 25);
        }
    }

    private static void averageTakesNoRedress() {
        for (int code : new int[] {Make.AVERAGE, Make.BEFORE, Make.STATED}) {
            RegattaOffice office = Make.regatta(3, 3);
            office.finish(0, 0, 1);
            office.code(1, 0, code, 0);
            office.code(2, 0, Make.AVERAGE, 0);
            Check.equal("6: AVERAGE without " + code, office.points(2, 0), 10);
            office.code(2, 0, Make.BEFORE, 0);
            Check.equal("6: BEFORE without " + code, office.points(2, 0), 10);
            office.protest(1, 0, Make.DNS, 0);
            Check.equal("6: a decision on it counts", office.points(2, 0), 25);
            office.reopen(0);
            Check.equal("6: reopened, it counts no more", office.points(2, 0), 10);
            office.protest(0, 0, code, 0);
            Check.equal("6: redress by a decision, 5 N", office.points(2, 0), 15);
        }
    }

    private static void averageOfTheSeriesAlone() {
        RegattaOffice office = Make.regatta(2, 4);
        office.finish(0, 0, 1);
        office.finish(1, 0, 1);
        office.finish(1, 1, 1);
        office.code(3, 0, Make.AVERAGE, 0);
        Check.equal("6: a race that is not sailed is none", office.points(3, 0), 13);
        office.abandon(0, true);
        Check.equal("6: nor an abandoned one", office.points(3, 0), 15);
        RegattaOffice fleets = Make.splitRegatta();
        int gold = fleets.race(Make.FINAL, Make.GOLD);
        int silver = fleets.race(Make.FINAL, Make.SILVER);
        fleets.finish(gold, 0, 1);
        fleets.finish(silver, 3, 1);
        int last = fleets.race(Make.FINAL, Make.SILVER);
        fleets.code(last, 2, Make.AVERAGE, 0);
        Check.equal("6: nor one of another fleet: of 30 and 30", fleets.points(last, 2), 30);
    }

    private static void averageOfPointsNotScores() {
        RegattaOffice office = Make.regatta(3, 2);
        int medal = office.race(Make.MEDAL, Make.ALL);
        Make.places(office, 0, 1, 2, 3);
        Make.places(office, medal, 2, 1, 3);
        office.code(1, 0, Make.AVERAGE, 0);
        Check.equal("6: the points of a MEDAL race", office.points(1, 0), 15);
        office.code(medal, 1, Make.AVERAGE, 0);
        Check.equal("6: in a MEDAL race, of 20 and none's 40", office.points(medal, 1), 30);
        Check.equal("17: twice as a score", office.gross(1), 20 + 40 + 60);
        office.discards(1, 2);
        Check.equal("6: discarded ones are taken, too", office.points(medal, 1), 30);
    }

    private static void beforeOfLowerNumbers() {
        RegattaOffice office = Make.regatta(2, 4);
        Make.places(office, 0, 1, 2);
        Make.places(office, 1, 2, 1);
        Make.places(office, 2, 2, 1);
        Make.places(office, 3, 2, 1);
        int[] due = {10, 10, 15, 17};
        for (int race = 0; race < 4; race++) {
            int decision = office.protest(race, 0, Make.BEFORE, 0);
            Check.equal("6: BEFORE in race " + race, office.points(race, 0), due[race]);
            office.reopen(decision);
        }
        office.code(0, 0, Make.STATED, 99);
        office.code(1, 0, Make.BEFORE, 0);
        Check.equal("6: redress alone before it, 5 N", office.points(1, 0), 10);
    }

    private static void averageOfFifteen() {
        RegattaOffice office = Make.regatta(20, 16);
        for (int race = 0; race < 15; race++) {
            office.finish(race, 1, 1);
        }
        office.code(15, 0, Make.BEFORE, 0);
        office.code(15, 1, Make.AVERAGE, 0);
        office.finish(14, 0, 1);
        Check.equal("6: BEFORE of 14 times 210 and 15", office.points(15, 0), 197);
        Check.equal("6: AVERAGE of 14 times 10 and 15", office.points(15, 1), 10);
        office.protest(0, 1, Make.AVERAGE, 0);
        office.protest(15, 1, Make.DNE, 0);
        Check.equal("6: AVERAGE in the first of 16, of 13 times 10, 15 and 210", office.points(0, 1), 24);
        office.protest(0, 1, Make.BEFORE, 0);
        Check.equal("6: BEFORE in the first of 16, 5 N", office.points(0, 1), 100);
    }
}
