/** Promises 14, 23 and 24: points, missing boats and what is told. */
final class AskingTest {
    private AskingTest() {
    }

    static void run() {
        points();
        missing();
        missingBehindTheSplit();
        told();
        wrongOnes();
    }

    private static void points() {
        RegattaOffice office = Make.regatta(3, 2);
        Check.equal("14: the race is not sailed", office.points(0, 0), RegattaOffice.NONE);
        office.finish(0, 1, 50);
        Check.equal("14: a place", office.points(0, 1), 10);
        Check.equal("14: none", office.points(0, 0), 40);
        Check.equal("14: the other race", office.points(1, 1), RegattaOffice.NONE);
        office.boat();
        Check.equal("14: the size is as it is now", office.points(0, 0), 50);
        Check.equal("14: of the new boat, too", office.points(0, 3), 50);
        office.abandon(0, true);
        Check.equal("14: abandoned", office.points(0, 1), RegattaOffice.NONE);
        RegattaOffice fleets = Make.splitRegatta();
        fleets.race(Make.FINAL, Make.GOLD);
        fleets.finish(1, 0, 1);
        Check.equal("14: a race of its fleet", fleets.points(1, 1), 30);
        Check.equal("14: a race of another fleet", fleets.points(1, 2), RegattaOffice.NONE);
    }

    private static void missing() {
        RegattaOffice office = Make.regatta(5, 1);
        office.finish(0, 1, 1);
        office.code(0, 4, Make.DNS, 0);
        Check.equal("23: the first", office.missing(0, 0), 0);
        Check.equal("23: the second", office.missing(0, 1), 2);
        Check.equal("23: the third", office.missing(0, 2), 3);
        for (int k : new int[] {3, -1, Integer.MIN_VALUE, Integer.MAX_VALUE}) {
            Check.equal("23: there is none", office.missing(0, k), RegattaOffice.NONE);
        }
        office.protest(0, 0, Make.AVERAGE, 0);
        Check.equal("23: a decision is an entry", office.missing(0, 0), 2);
        office.reopen(0);
        Check.equal("23: a reopened one is none", office.missing(0, 0), 0);
        office.abandon(0, true);
        Check.equal("23: in an abandoned race", office.missing(0, 1), 2);
        office.clear(0, 1);
        Check.equal("23: cleared", office.missing(0, 1), 1);
        office.clear(0, 4);
        Check.equal("23: in a race that is not sailed", office.missing(0, 4), 4);
    }

    private static void missingBehindTheSplit() {
        RegattaOffice office = Make.splitRegatta();
        office.race(Make.FINAL, Make.SILVER);
        Check.equal("23: of SILVER", office.missing(1, 0), 2);
        Check.equal("23: of SILVER", office.missing(1, 1), 3);
        Check.equal("23: of SILVER alone", office.missing(1, 2), RegattaOffice.NONE);
        office.finish(1, 2, 1);
        Check.equal("23: of SILVER, one has come in", office.missing(1, 0), 3);
    }

    private static void told() {
        RegattaOffice office = Make.splitRegatta();
        office.lot(3, 17);
        office.race(Make.FINAL, Make.SILVER);
        office.finish(1, 2, 1);
        office.discards(2, 1);
        Check.equal("24: the fleet", office.told(3, 0), 2);
        Check.equal("24: the lot", office.told(3, 1), 17);
        Check.equal("24: the races of its series", office.told(3, 2), 2);
        Check.equal("24: the discarded ones", office.told(3, 3), 1);
        Check.equal("24: the races of another's series", office.told(0, 2), 1);
        Check.equal("24: the discarded ones of another", office.told(0, 3), 0);
    }

    private static void wrongOnes() {
        RegattaOffice office = Make.regatta(3, 2);
        for (int what : new int[] {-1, 4, Integer.MIN_VALUE, Integer.MAX_VALUE}) {
            Check.fails("24: none of these", IllegalArgumentException.class, () -> office.told(0, what));
            Check.fails("24: the boat comes first", IndexOutOfBoundsException.class, () -> office.told(3, what));
        }
        for (int boat : new int[] {-1, 3, Integer.MIN_VALUE, Integer.MAX_VALUE}) {
            Check.fails("24: no such boat", IndexOutOfBoundsException.class, () -> office.told(boat, 0));
            Check.fails("14: no such boat", IndexOutOfBoundsException.class, () -> office.points(0, boat));
        }
        for (int race : new int[] {-1, 2, Integer.MIN_VALUE, Integer.MAX_VALUE}) {
            Check.fails("14: no such race", IndexOutOfBoundsException.class, () -> office.points(race, 0));
            Check.fails("23: no such race", IndexOutOfBoundsException.class, () -> office.missing(race, 0));
            Check.fails("23: no such race", IndexOutOfBoundsException.class, () -> office.missing(race, -1));
        }
    }
}
