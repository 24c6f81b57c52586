/** Promises 5 to 8: places, codes, penalties and what is cleared. */
final class EntriesTest {
    private EntriesTest() {
    }

    static void run() {
        places();
        codes();
        redress();
        penalties();
        clearing();
        wrongRacesAndBoats();
        otherFleets();
        theFirstExceptionThatFits();
    }

    private static void places() {
        RegattaOffice office = Make.regatta(4, 1);
        Make.places(office, 0, 7, 99, 7, 1);
        Check.equal("5: the lowest place", office.points(0, 3), 10);
        Check.equal("5: a dead heat of two", office.points(0, 0), 25);
        Check.equal("5: a dead heat of two, the other", office.points(0, 2), 25);
        Check.equal("5: the highest place", office.points(0, 1), 40);
        office.finish(0, 0, 99);
        office.finish(0, 2, 99);
        Check.equal("5: a dead heat of three", office.points(0, 1), 30);
        for (int place : new int[] {0, 100, -1, Integer.MIN_VALUE, Integer.MAX_VALUE}) {
            Check.fails("5: no such place", IllegalArgumentException.class, () -> office.finish(0, 3, place));
        }
        Check.equal("5: a call that throws changes nothing", office.points(0, 3), 10);
        office.code(0, 3, Make.DNE, 0);
        office.finish(0, 3, 2);
        Check.equal("5: in the place of a code", office.points(0, 3), 10);
        office.penalty(0, 3, 50);
        Check.equal("5: with a penalty", office.points(0, 3), 30);
        office.finish(0, 3, 2);
        Check.equal("5: a place comes without a penalty", office.points(0, 3), 10);
        office.protest(0, 3, Make.STATED, 7);
        office.finish(0, 3, 1);
        Check.equal("5: the decision counts, not what is put in", office.points(0, 3), 7);
    }

    private static void codes() {
        RegattaOffice office = Make.regatta(3, 1);
        Make.places(office, 0, 1, 2, 3);
        for (int code = Make.DNS; code <= Make.DNE; code++) {
            office.code(0, 0, code, 0);
            Check.equal("6: a code's points", office.points(0, 0), 40);
            Check.equal("6: the boats behind move up", office.points(0, 1), 10);
            int such = code;
            for (int argument : new int[] {-1, 1, 9999}) {
                Check.fails("6: no such argument", IllegalArgumentException.class,
                        () -> office.code(0, 0, such, argument));
            }
        }
        office.code(0, 0, Make.STATED, 9999);
        Check.equal("6: STATED 9999", office.points(0, 0), 9999);
        office.code(0, 0, Make.STATED, 0);
        Check.equal("6: STATED 0", office.points(0, 0), 0);
        for (int argument : new int[] {-1, 10000, Integer.MIN_VALUE, Integer.MAX_VALUE}) {
            Check.fails("6: no such argument of STATED", IllegalArgumentException.class,
                    () -> office.code(0, 0, Make.STATED, argument));
        }
        for (int code : new int[] {-1, 0, 9, Integer.MIN_VALUE, Integer.MAX_VALUE}) {
            Check.fails("6: no such code", IllegalArgumentException.class, () -> office.code(0, 0, code, 0));
            Check.fails("6: no such code", IllegalArgumentException.class, () -> office.code(0, 0, code, 1));
        }
        Check.equal("6: a call that throws changes nothing", office.points(0, 0), 0);
        office.finish(0, 0, 1);
        office.penalty(0, 0, 100);
        office.code(0, 0, Make.STATED, 5);
        Check.equal("6: a code has no penalty", office.points(0, 0), 5);
    }

    private static void redress() {
        RegattaOffice office = Make.regatta(3, 4);
        Make.places(office, 0, 1, 2, 3);
        Make.places(office, 1, 1, 1, 3);
        Make.places(office, 3, 0, 1, 2);
        office.code(2, 0, Make.AVERAGE, 0);
        Check.equal("6: AVERAGE of 10, 15 and none's 40, 21.7", office.points(2, 0), 22);
        office.code(2, 0, Make.BEFORE, 0);
        Check.equal("6: BEFORE of 10 and 15, 12.5", office.points(2, 0), 13);
        office.code(0, 0, Make.BEFORE, 0);
        Check.equal("6: BEFORE without a race before", office.points(0, 0), 15);
        Check.equal("6: BEFORE takes no redress", office.points(2, 0), 15);
        office.code(0, 1, Make.STATED, 1);
        office.code(1, 1, Make.AVERAGE, 0);
        office.code(3, 1, Make.BEFORE, 0);
        Check.equal("6: AVERAGE takes none's points, no redress", office.points(1, 1), 40);
        Check.equal("6: BEFORE takes none's points, no redress", office.points(3, 1), 40);
        office.abandon(2, true);
        Check.equal("6: AVERAGE without a race that counts", office.points(1, 1), 15);
        Check.equal("6: BEFORE without a race that counts", office.points(3, 1), 15);
        Check.equal("6: points in an abandoned race", office.points(2, 0), RegattaOffice.NONE);
        office.boat();
        Check.equal("6: without one, 5 N with N as it is now", office.points(1, 1), 20);
        RegattaOffice full = Make.regatta(40, 16);
        full.finish(0, 39, 1);
        full.code(15, 39, Make.AVERAGE, 0);
        Check.equal("6: AVERAGE in the last race there may be", full.points(15, 39), 10);
        Check.equal("6: of the last boat there may be", full.points(15, 38), 410);
    }

    private static void penalties() {
        RegattaOffice office = Make.regatta(5, 1);
        Make.places(office, 0, 1, 2, 3, 4, 0);
        RegattaOffice four = Make.regatta(4, 1);
        four.finish(0, 0, 1);
        four.penalty(0, 0, 1);
        Check.equal("7: 1 percent, 0.4 rounded down", four.points(0, 0), 10);
        office.penalty(0, 0, 100);
        Check.equal("7: 100 percent", office.points(0, 0), 60);
        office.penalty(0, 0, 1);
        Check.equal("7: 1 percent, 0.5 rounded up", office.points(0, 0), 11);
        office.penalty(0, 0, 9);
        Check.equal("7: 9 percent, 4.5 rounded up", office.points(0, 0), 15);
        office.penalty(0, 0, 0);
        Check.equal("7: 0 takes it away", office.points(0, 0), 10);
        office.penalty(0, 3, 40);
        Check.equal("7: just as much as the most", office.points(0, 3), 60);
        office.penalty(0, 3, 60);
        Check.equal("7: no more than the most", office.points(0, 3), 60);
        Check.equal("7: the places of the others stay", office.points(0, 2), 30);
        for (int percent : new int[] {-1, 101, Integer.MIN_VALUE, Integer.MAX_VALUE}) {
            Check.fails("7: no such percentage", IllegalArgumentException.class,
                    () -> office.penalty(0, 3, percent));
        }
        Check.fails("7: no entry", IllegalStateException.class, () -> office.penalty(0, 4, 10));
        Check.fails("7: no entry, no taking away either", IllegalStateException.class,
                () -> office.penalty(0, 4, 0));
        office.code(0, 4, Make.STATED, 33);
        Check.fails("7: a code", IllegalStateException.class, () -> office.penalty(0, 4, 10));
        office.protest(0, 4, Make.PLACE, 5);
        Check.fails("7: a place of a decision is not put in", IllegalStateException.class,
                () -> office.penalty(0, 4, 10));
        int decision = office.protest(0, 1, Make.PLACE, 2);
        office.penalty(0, 1, 20);
        Check.equal("7: the decision counts, without a penalty", office.points(0, 1), 20);
        office.reopen(decision);
        Check.equal("7: the penalty stands under it", office.points(0, 1), 30);
        office.clear(0, 1);
        Check.fails("7: cleared", IllegalStateException.class, () -> office.penalty(0, 1, 10));
    }

    private static void clearing() {
        RegattaOffice office = Make.regatta(2, 1);
        Check.equal("8: nothing there", office.clear(0, 0), false);
        office.finish(0, 0, 1);
        office.code(0, 1, Make.DSQ, 0);
        Check.equal("8: a place", office.clear(0, 0), true);
        Check.equal("8: points of none", office.points(0, 0), 30);
        Check.equal("8: again", office.clear(0, 0), false);
        Check.equal("8: a code", office.clear(0, 1), true);
        Check.equal("8: the race is sailed no longer", office.points(0, 0), RegattaOffice.NONE);
        office.protest(0, 0, Make.STATED, 12);
        Check.equal("8: a decision is not put in", office.clear(0, 0), false);
        Check.equal("8: and it stays", office.points(0, 0), 12);
        RegattaOffice fleets = Make.splitRegatta();
        fleets.race(Make.FINAL, Make.GOLD);
        Check.equal("8: a race of another fleet", fleets.clear(1, 5), false);
    }

    private static void wrongRacesAndBoats() {
        RegattaOffice office = Make.regatta(3, 2);
        int[][] wrong = {{-1, 0}, {2, 0}, {0, -1}, {0, 3}, {2, 3}, {-1, -1},
                {Integer.MAX_VALUE, 0}, {0, Integer.MAX_VALUE}, {Integer.MIN_VALUE, 0}, {0, Integer.MIN_VALUE}};
        for (int[] at : wrong) {
            Check.fails("5: no such race or boat", IndexOutOfBoundsException.class,
                    () -> office.finish(at[0], at[1], 1));
            Check.fails("6: no such race or boat", IndexOutOfBoundsException.class,
                    () -> office.code(at[0], at[1], Make.DNS, 0));
            Check.fails("7: no such race or boat", IndexOutOfBoundsException.class,
                    () -> office.penalty(at[0], at[1], 10));
            Check.fails("8: no such race or boat", IndexOutOfBoundsException.class,
                    () -> office.clear(at[0], at[1]));
        }
    }

    private static void otherFleets() {
        RegattaOffice office = Make.splitRegatta();
        office.race(Make.FINAL, Make.SILVER);
        for (int boat : new int[] {0, 1, 4, 5}) {
            Check.fails("5: the race is not of it", IllegalStateException.class, () -> office.finish(1, boat, 1));
            Check.fails("6: the race is not of it", IllegalStateException.class,
                    () -> office.code(1, boat, Make.DNS, 0));
            Check.fails("7: the race is not of it", IllegalStateException.class,
                    () -> office.penalty(1, boat, 10));
        }
        Check.works("5: the race is of it", () -> office.finish(1, 2, 1));
        Check.works("6: the race is of it", () -> office.code(1, 3, Make.DNS, 0));
        Check.equal("6: with the size of the fleet", office.points(1, 3), 30);
        Check.works("5: a race of ALL is of it still", () -> office.finish(0, 5, 9));
        Check.equal("5: with the size of all", office.points(0, 5), 60);
    }

    private static void theFirstExceptionThatFits() {
        RegattaOffice office = Make.splitRegatta();
        office.race(Make.FINAL, Make.GOLD);
        Check.fails("5: index first", IndexOutOfBoundsException.class, () -> office.finish(2, 5, 0));
        Check.fails("5: state next", IllegalStateException.class, () -> office.finish(1, 5, 0));
        Check.fails("6: index first", IndexOutOfBoundsException.class, () -> office.code(1, 6, 0, 0));
        Check.fails("6: state next", IllegalStateException.class, () -> office.code(1, 5, 0, 0));
        Check.fails("6: state next", IllegalStateException.class, () -> office.code(1, 5, 9, 0));
        Check.fails("7: index first", IndexOutOfBoundsException.class, () -> office.penalty(1, 6, 101));
        Check.fails("7: state next", IllegalStateException.class, () -> office.penalty(1, 0, 101));
    }
}
