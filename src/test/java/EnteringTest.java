/** Promises 1 to 4: a new object, boats, races, abandoned races. */
final class EnteringTest {
    private EnteringTest() {
    }

    static void run() {
        newObject();
        boats();
        boatsBehindTheSplit();
        races();
        racesBehindTheSplit();
        tooManyRaces();
        abandonedRaces();
        putInWhileAbandoned();
        noSuchRace();
    }

    private static void newObject() {
        RegattaOffice office = new RegattaOffice();
        Check.equal("1: NONE", RegattaOffice.NONE, -1);
        Check.equal("1: the first sheet", office.sheet(), 0);
        Check.fails("1: no byte of an empty sheet", IndexOutOfBoundsException.class,
                () -> new RegattaOffice().sheetByte(0));
        Check.fails("1: no boat yet", IndexOutOfBoundsException.class, () -> office.rank(0));
        Check.fails("1: no rank yet", IndexOutOfBoundsException.class, () -> office.at(1));
        Check.fails("1: no race yet", IndexOutOfBoundsException.class, () -> office.abandon(0, true));
        Check.fails("1: no decision yet", IndexOutOfBoundsException.class, () -> office.reopen(0));
        Check.works("1: no step yet", () -> office.discards(1, 1));
    }

    private static void boats() {
        RegattaOffice office = new RegattaOffice();
        for (int boat = 0; boat < 40; boat++) {
            Check.equal("2: boat()", office.boat(), boat);
        }
        Check.fails("2: boat 40", UnsupportedOperationException.class, office::boat);
        Check.equal("2: the last rank", office.at(40), 39);
        Check.fails("2: a call that throws changes nothing", IndexOutOfBoundsException.class, () -> office.rank(40));
        Check.equal("2: a new boat's lot", office.told(39, 1), 0);
        Check.equal("2: a new boat's fleet", office.told(39, 0), 0);
    }

    private static void boatsBehindTheSplit() {
        Check.fails("2: behind the split", IllegalStateException.class, () -> Make.splitRegatta().boat());
        RegattaOffice full = Make.regatta(40, 1);
        full.finish(0, 0, 1);
        full.split(1, 1);
        Check.fails("2: the split comes first", IllegalStateException.class, full::boat);
    }

    private static void races() {
        RegattaOffice office = Make.regatta(2, 0);
        Check.equal("3: QUALIFYING of ALL", office.race(0, 0), 0);
        Check.equal("3: MEDAL of ALL", office.race(2, 0), 1);
        Check.fails("3: a FINAL before the split", IllegalStateException.class, () -> office.race(1, 0));
        for (int fleet = 1; fleet <= 3; fleet++) {
            int of = fleet;
            for (int kind = 0; kind <= 2; kind++) {
                int such = kind;
                Check.fails("3: not of ALL before the split", IllegalStateException.class,
                        () -> office.race(such, of));
            }
        }
        for (int[] wrong : new int[][] {{-1, 0}, {3, 0}, {0, -1}, {0, 4}, {3, 1}, {1, 4},
                {Integer.MIN_VALUE, 0}, {0, Integer.MAX_VALUE}}) {
            Check.fails("3: no such kind or fleet", IllegalArgumentException.class,
                    () -> office.race(wrong[0], wrong[1]));
        }
        Check.equal("3: the next number", office.race(0, 0), 2);
    }

    private static void racesBehindTheSplit() {
        RegattaOffice office = Make.splitRegatta();
        Check.equal("3: FINAL of GOLD", office.race(1, 1), 1);
        Check.equal("3: FINAL of SILVER", office.race(1, 2), 2);
        Check.equal("3: FINAL of BRONZE", office.race(1, 3), 3);
        Check.equal("3: MEDAL of GOLD", office.race(2, 1), 4);
        Check.equal("3: MEDAL of BRONZE", office.race(2, 3), 5);
        for (int fleet = 0; fleet <= 3; fleet++) {
            int of = fleet;
            Check.fails("3: QUALIFYING behind the split", IllegalStateException.class, () -> office.race(0, of));
        }
        Check.fails("3: FINAL of ALL behind the split", IllegalStateException.class, () -> office.race(1, 0));
        Check.fails("3: MEDAL of ALL behind the split", IllegalStateException.class, () -> office.race(2, 0));
        Check.fails("3: no such fleet comes first", IllegalArgumentException.class, () -> office.race(0, 4));
    }

    private static void tooManyRaces() {
        RegattaOffice office = Make.regatta(1, 15);
        Check.equal("3: race 15", office.race(0, 0), 15);
        Check.fails("3: race 16", UnsupportedOperationException.class, () -> office.race(0, 0));
        Check.fails("3: the wrong kind comes first", IllegalArgumentException.class, () -> office.race(3, 0));
        Check.fails("3: the wrong side comes first", IllegalStateException.class, () -> office.race(1, 0));
        Check.fails("3: a call that throws changes nothing", IndexOutOfBoundsException.class,
                () -> office.abandon(16, true));
    }

    private static void abandonedRaces() {
        RegattaOffice office = Make.regatta(2, 2);
        Make.places(office, 0, 1, 2);
        Make.places(office, 1, 2, 1);
        Check.equal("4: net before", office.net(0), 30);
        Check.equal("4: abandoned for the first time", office.abandon(0, true), false);
        Check.equal("4: points in it", office.points(0, 0), RegattaOffice.NONE);
        Check.equal("4: net without it", office.net(0), 20);
        Check.equal("4: series without it", office.told(0, 2), 1);
        Check.equal("4: abandoned again", office.abandon(0, true), true);
        Check.equal("4: no longer", office.abandon(0, false), true);
        Check.equal("4: no longer, again", office.abandon(0, false), false);
        Check.equal("4: net with it again", office.net(0), 30);
        Check.equal("4: the entries stayed", office.points(0, 1), 20);
    }

    private static void putInWhileAbandoned() {
        RegattaOffice office = Make.regatta(10, 1);
        Make.places(office, 0, 1, 2);
        office.penalty(0, 0, 30);
        office.abandon(0, true);
        office.finish(0, 2, 3);
        office.penalty(0, 1, 50);
        Check.equal("4: a decision in it", office.protest(0, 3, Make.STATED, 7), 0);
        Check.equal("4: it is not sailed", office.points(0, 0), RegattaOffice.NONE);
        office.abandon(0, false);
        Check.equal("4: the penalty stayed", office.points(0, 0), 40);
        Check.equal("4: the one given meanwhile", office.points(0, 1), 70);
        Check.equal("4: the place put in meanwhile", office.points(0, 2), 30);
        Check.equal("4: the decision made meanwhile", office.points(0, 3), 7);
    }

    private static void noSuchRace() {
        RegattaOffice office = Make.regatta(1, 2);
        for (int race : new int[] {-1, 2, Integer.MIN_VALUE, Integer.MAX_VALUE}) {
            Check.fails("4: no such race", IndexOutOfBoundsException.class, () -> office.abandon(race, true));
            Check.fails("4: no such race", IndexOutOfBoundsException.class, () -> office.abandon(race, false));
        }
    }
}
