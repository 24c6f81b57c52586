/** Promises 11, 15, 16, 17 and 18: steps, discards, NET, GROSS and the mean. */
final class DiscardsTest {
    private DiscardsTest() {
    }

    static void run() {
        steps();
        wrongSteps();
        allowedBySeries();
        theGreatestAndTheEarlier();
        whatCanNotBeDiscarded();
        fewerThanAllowed();
        medalRaces();
        grossAndMean();
        wrongBoats();
    }

    private static void steps() {
        RegattaOffice office = Make.regatta(2, 16);
        Check.works("11: the least step", () -> office.discards(1, 1));
        Check.works("11: the next", () -> office.discards(2, 2));
        Check.works("11: the next", () -> office.discards(3, 3));
        Check.works("11: the next", () -> office.discards(5, 5));
        Check.works("11: the next", () -> office.discards(9, 14));
        Check.works("11: the greatest step", () -> office.discards(16, 15));
        Check.fails("11: not above the latest comes first", IllegalArgumentException.class,
                () -> office.discards(16, 15));
        RegattaOffice six = Make.regatta(1, 1);
        for (int step = 1; step <= 6; step++) {
            six.discards(step, step);
        }
        Check.fails("11: there are 6", UnsupportedOperationException.class, () -> six.discards(7, 7));
        Check.fails("11: a wrong one comes first", IllegalArgumentException.class, () -> six.discards(17, 7));
        Check.fails("11: one not above comes first", IllegalArgumentException.class, () -> six.discards(6, 7));
    }

    private static void wrongSteps() {
        RegattaOffice office = Make.regatta(2, 3);
        int[][] wrong = {{0, 1}, {17, 1}, {-1, 1}, {1, 0}, {1, 16}, {1, -1},
                {Integer.MIN_VALUE, 1}, {1, Integer.MAX_VALUE}};
        for (int[] step : wrong) {
            Check.fails("11: out of bounds", IllegalArgumentException.class,
                    () -> office.discards(step[0], step[1]));
        }
        office.discards(3, 2);
        for (int[] step : new int[][] {{3, 3}, {4, 2}, {2, 3}, {4, 1}, {3, 2}}) {
            Check.fails("11: not above the latest", IllegalArgumentException.class,
                    () -> office.discards(step[0], step[1]));
        }
        Make.places(office, 0, 1, 2);
        Make.places(office, 1, 1, 2);
        Make.places(office, 2, 1, 2);
        Check.equal("11: a call that throws changes nothing", office.told(0, 3), 2);
        Check.works("11: both above", () -> office.discards(4, 3));
    }

    private static void allowedBySeries() {
        RegattaOffice office = Make.regatta(2, 5);
        office.discards(2, 1);
        office.discards(4, 3);
        int[] due = {0, 1, 1, 3, 3};
        for (int race = 0; race < 5; race++) {
            Make.places(office, race, 1, 2);
            Check.equal("11: allowed", office.told(0, 3), due[race]);
        }
        office.abandon(4, true);
        office.abandon(3, true);
        Check.equal("11: abandoned races are not of the series", office.told(0, 3), 1);
    }

    private static void theGreatestAndTheEarlier() {
        RegattaOffice office = Make.regatta(3, 4);
        Make.places(office, 0, 1, 2, 3);
        Make.places(office, 1, 3, 2, 1);
        Make.places(office, 2, 3, 2, 1);
        Make.places(office, 3, 2, 1, 3);
        office.discards(1, 1);
        Check.equal("15: of equal ones the earlier", office.isDiscard(1, 0), true);
        Check.equal("15: not the later", office.isDiscard(2, 0), false);
        Check.equal("15: of three equal ones the first", office.isDiscard(0, 1), true);
        Check.equal("15: not the second", office.isDiscard(1, 1), false);
        Check.equal("16: NET", office.net(0), 60);
        Check.equal("16: NET", office.net(1), 50);
        Check.equal("17: GROSS", office.gross(0), 90);
        office.discards(4, 2);
        Check.equal("15: the second too", office.isDiscard(2, 0), true);
        Check.equal("15: a lesser one not", office.isDiscard(3, 0), false);
        Check.equal("16: NET with two left out", office.net(0), 30);
        office.abandon(1, true);
        Check.equal("15: not of the series", office.isDiscard(1, 0), false);
        Check.equal("15: another in its place", office.isDiscard(2, 0), true);
    }

    private static void whatCanNotBeDiscarded() {
        RegattaOffice office = Make.regatta(2, 2);
        int medal = office.race(Make.MEDAL, Make.ALL);
        office.code(0, 0, Make.DNE, 0);
        office.finish(1, 0, 1);
        office.code(medal, 0, Make.DSQ, 0);
        office.discards(1, 1);
        Check.equal("15: no DNE", office.isDiscard(0, 0), false);
        Check.equal("15: no MEDAL race", office.isDiscard(medal, 0), false);
        Check.equal("15: the other", office.isDiscard(1, 0), true);
        Check.equal("16: NET", office.net(0), 30 + 60);
        Check.equal("15: none can be discarded", office.isDiscard(0, 1), true);
        office.protest(0, 0, Make.DSQ, 0);
        Check.equal("15: the entry that counts is no DNE", office.isDiscard(0, 0), true);
        office.protest(1, 1, Make.DNE, 0);
        office.protest(0, 1, Make.DNE, 0);
        Check.equal("15: DNE by a decision", office.isDiscard(0, 1), false);
        Check.equal("15: nor the second", office.isDiscard(1, 1), false);
        Check.equal("15: none is left", office.told(1, 3), 0);
    }

    private static void fewerThanAllowed() {
        RegattaOffice office = Make.regatta(2, 2);
        office.discards(1, 15);
        Make.places(office, 0, 1, 2);
        office.code(1, 0, Make.DNE, 0);
        Check.equal("15: all, if there are fewer", office.told(1, 3), 2);
        Check.equal("16: NET of nothing", office.net(1), 0);
        Check.equal("17: GROSS stays", office.gross(1), 20 + 30);
        Check.equal("16: NET of the DNE", office.net(0), 30);
    }

    private static void medalRaces() {
        RegattaOffice office = Make.regatta(3, 1);
        int medal = office.race(Make.MEDAL, Make.ALL);
        Make.places(office, 0, 1, 2, 3);
        Make.places(office, medal, 2, 1, 1);
        Check.equal("14: the points of a MEDAL race", office.points(medal, 0), 30);
        Check.equal("17: the score is twice these", office.gross(0), 10 + 60);
        Check.equal("17: with a dead heat", office.gross(1), 20 + 30);
        office.code(medal, 2, Make.STATED, 33);
        Check.equal("17: twice what is stated", office.gross(2), 30 + 66);
        office.code(0, 2, Make.AVERAGE, 0);
        office.finish(medal, 2, 3);
        Check.equal("17: an average is of points, not of scores", office.points(0, 2), 30);
    }

    private static void grossAndMean() {
        RegattaOffice office = Make.regatta(4, 4);
        Check.equal("18: without any", office.mean(0), 0.0);
        Check.equal("17: without any", office.gross(0), 0);
        Check.equal("16: without any", office.net(0), 0);
        Make.places(office, 0, 1, 2, 2, 0);
        Make.places(office, 1, 4, 1, 2, 3);
        Make.places(office, 2, 1, 2, 3, 4);
        Check.equal("18: 60 / 30", office.mean(0), 2.0);
        Check.equal("18: 55 / 30", office.mean(1), 55.0 / 30.0);
        Check.equal("18: 120 / 30", office.mean(3), 4.0);
        office.discards(1, 1);
        Check.equal("18: discards change nothing", office.mean(1), 55.0 / 30.0);
        Check.equal("16: but NET", office.net(1), 30);
        office.abandon(0, true);
        Check.equal("18: 30 / 20", office.mean(1), 1.5);
        office.boat();
        Check.equal("17: one more boat", office.gross(4), 60 + 60);
    }

    private static void wrongBoats() {
        RegattaOffice office = Make.regatta(3, 2);
        for (int boat : new int[] {-1, 3, Integer.MIN_VALUE, Integer.MAX_VALUE}) {
            Check.fails("15: no such boat", IndexOutOfBoundsException.class, () -> office.isDiscard(0, boat));
            Check.fails("16: no such boat", IndexOutOfBoundsException.class, () -> office.net(boat));
            Check.fails("17: no such boat", IndexOutOfBoundsException.class, () -> office.gross(boat));
            Check.fails("18: no such boat", IndexOutOfBoundsException.class, () -> office.mean(boat));
        }
        for (int race : new int[] {-1, 2, Integer.MIN_VALUE, Integer.MAX_VALUE}) {
            Check.fails("15: no such race", IndexOutOfBoundsException.class, () -> office.isDiscard(race, 0));
        }
    }
}
