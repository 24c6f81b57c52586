/**
 * "Where a call names several exceptions, the first one that fits is thrown": for each call that names several, every
 * two or more of them that can fit at once.
 */
final class FirstExceptionTest {
    private static final Class<IndexOutOfBoundsException> INDEX = IndexOutOfBoundsException.class;
    private static final Class<IllegalStateException> STATE = IllegalStateException.class;
    private static final Class<IllegalArgumentException> ARGUMENT = IllegalArgumentException.class;

    private FirstExceptionTest() {
    }

    static void run() {
        boat();
        raceBeforeTheSplit();
        raceBehindTheSplit();
        raceWhenThereAre16();
        finish();
        code();
        penalty();
        protest();
        protestWhenThereAre40();
        what();
        reopen();
        discards();
        lot();
        split();
        tie();
        told();
    }

    private static void boat() {
        RegattaOffice office = Make.regatta(40, 1);
        office.finish(0, 0, 1);
        office.split(1, 1);
        Check.fails("2: behind the split, and there are 40", STATE, office::boat);
    }

    private static void raceBeforeTheSplit() {
        RegattaOffice office = Make.regatta(2, 1);
        Check.fails("3: a FINAL, of no such fleet", ARGUMENT, () -> office.race(1, 4));
        Check.fails("3: a FINAL, of no such fleet", ARGUMENT, () -> office.race(1, -1));
        Check.fails("3: no such kind, not of ALL", ARGUMENT, () -> office.race(3, 1));
        Check.fails("3: no such kind, not of ALL", ARGUMENT, () -> office.race(-1, 3));
        Check.fails("3: neither kind nor fleet", ARGUMENT, () -> office.race(3, 4));
        Check.fails("3: a FINAL, not of ALL", STATE, () -> office.race(1, 1));
    }

    private static void raceBehindTheSplit() {
        RegattaOffice office = Make.splitRegatta();
        Check.fails("3: QUALIFYING, of no such fleet", ARGUMENT, () -> office.race(0, 4));
        Check.fails("3: QUALIFYING, of no such fleet", ARGUMENT, () -> office.race(0, -1));
        Check.fails("3: no such kind, of ALL", ARGUMENT, () -> office.race(3, 0));
        Check.fails("3: no such kind, of ALL", ARGUMENT, () -> office.race(-1, 0));
        Check.fails("3: QUALIFYING and of ALL", STATE, () -> office.race(0, 0));
    }

    private static void raceWhenThereAre16() {
        RegattaOffice office = Make.regatta(3, 16);
        Check.fails("3: no such kind, and there are 16", ARGUMENT, () -> office.race(3, 0));
        Check.fails("3: no such fleet, and there are 16", ARGUMENT, () -> office.race(0, 4));
        Check.fails("3: a FINAL, and there are 16", STATE, () -> office.race(1, 0));
        Check.fails("3: not of ALL, and there are 16", STATE, () -> office.race(0, 1));
        Check.fails("3: all three", ARGUMENT, () -> office.race(1, 4));
        Check.fails("3: there are 16", UnsupportedOperationException.class, () -> office.race(2, 0));
        office.finish(0, 0, 1);
        office.split(1, 1);
        Check.fails("3: behind the split no such kind, and there are 16", ARGUMENT, () -> office.race(3, 1));
        Check.fails("3: behind the split QUALIFYING, and there are 16", STATE, () -> office.race(0, 1));
        Check.fails("3: behind the split of ALL, and there are 16", STATE, () -> office.race(1, 0));
        Check.fails("3: behind the split all three", ARGUMENT, () -> office.race(0, 4));
        Check.fails("3: behind the split there are 16", UnsupportedOperationException.class,
                () -> office.race(1, 1));
    }

    /** Six boats, 0 and 1 in GOLD; race 0 of ALL, race 1 of GOLD. */
    private static RegattaOffice withGoldRace() {
        RegattaOffice office = Make.splitRegatta();
        office.race(Make.FINAL, Make.GOLD);
        return office;
    }

    private static void finish() {
        RegattaOffice office = withGoldRace();
        for (int place : new int[] {0, 100, Integer.MIN_VALUE, Integer.MAX_VALUE}) {
            Check.fails("5: no such race, no such place", INDEX, () -> office.finish(2, 5, place));
            Check.fails("5: no such race -1, no such place", INDEX, () -> office.finish(-1, 5, place));
            Check.fails("5: no such boat, no such place", INDEX, () -> office.finish(1, 6, place));
            Check.fails("5: no such boat -1, no such place", INDEX, () -> office.finish(1, -1, place));
            Check.fails("5: the race is not of it, no such place", STATE, () -> office.finish(1, 5, place));
        }
        Check.fails("5: neither race nor boat", INDEX, () -> office.finish(2, 6, 0));
        Check.fails("5: no such boat in the race of a fleet", INDEX, () -> office.finish(1, 6, 1));
    }

    private static void code() {
        RegattaOffice office = withGoldRace();
        int[][] wrong = {{0, 1}, {9, 0}, {-1, 0}, {1, 1}, {8, 10000}, {8, -1}, {9, 1},
                {Integer.MIN_VALUE, Integer.MIN_VALUE}, {Integer.MAX_VALUE, Integer.MAX_VALUE}};
        for (int[] entry : wrong) {
            Check.fails("6: no such race, no such entry", INDEX, () -> office.code(2, 5, entry[0], entry[1]));
            Check.fails("6: no such race -1, no such entry", INDEX, () -> office.code(-1, 5, entry[0], entry[1]));
            Check.fails("6: no such boat, no such entry", INDEX, () -> office.code(1, 6, entry[0], entry[1]));
            Check.fails("6: no such boat -1, no such entry", INDEX, () -> office.code(1, -1, entry[0], entry[1]));
            Check.fails("6: the race is not of it, no such entry", STATE,
                    () -> office.code(1, 5, entry[0], entry[1]));
            Check.fails("6: no such entry alone", ARGUMENT, () -> office.code(1, 0, entry[0], entry[1]));
        }
    }

    private static void penalty() {
        RegattaOffice office = withGoldRace();
        office.code(1, 0, Make.DSQ, 0);
        office.protest(1, 1, Make.PLACE, 1);
        for (int percent : new int[] {-1, 101, Integer.MIN_VALUE, Integer.MAX_VALUE}) {
            Check.fails("7: no such race, not 0 .. 100", INDEX, () -> office.penalty(2, 0, percent));
            Check.fails("7: no such boat, not 0 .. 100", INDEX, () -> office.penalty(0, 6, percent));
            Check.fails("7: a code is put in, not 0 .. 100", STATE, () -> office.penalty(1, 0, percent));
            Check.fails("7: nothing is put in, not 0 .. 100", STATE, () -> office.penalty(1, 1, percent));
            Check.fails("7: the race is not of it, not 0 .. 100", STATE, () -> office.penalty(1, 5, percent));
            Check.fails("7: not 0 .. 100 alone", ARGUMENT, () -> office.penalty(0, 0, percent));
        }
    }

    private static void protest() {
        RegattaOffice office = withGoldRace();
        int[][] wrong = {{0, 0}, {0, 100}, {9, 0}, {-1, 0}, {1, 1}, {8, 10000}, {8, -1},
                {Integer.MIN_VALUE, Integer.MIN_VALUE}, {Integer.MAX_VALUE, Integer.MAX_VALUE}};
        for (int[] entry : wrong) {
            Check.fails("9: no such race, no such entry", INDEX, () -> office.protest(2, 5, entry[0], entry[1]));
            Check.fails("9: no such boat, no such entry", INDEX, () -> office.protest(1, 6, entry[0], entry[1]));
            Check.fails("9: the race is not of it, no such entry", STATE,
                    () -> office.protest(1, 5, entry[0], entry[1]));
            Check.fails("9: no such entry alone", ARGUMENT, () -> office.protest(1, 0, entry[0], entry[1]));
        }
    }

    private static void protestWhenThereAre40() {
        RegattaOffice office = withGoldRace();
        for (int decision = 0; decision < 40; decision++) {
            office.protest(0, 0, Make.DNS, 0);
        }
        Check.fails("9: no such race, and there are 40", INDEX, () -> office.protest(2, 0, Make.DNS, 0));
        Check.fails("9: no such boat, and there are 40", INDEX, () -> office.protest(0, 6, Make.DNS, 0));
        Check.fails("9: not of it, and there are 40", STATE, () -> office.protest(1, 5, Make.DNS, 0));
        Check.fails("9: no such place, and there are 40", ARGUMENT, () -> office.protest(0, 0, Make.PLACE, 100));
        Check.fails("9: no such code, and there are 40", ARGUMENT, () -> office.protest(0, 0, 9, 0));
        Check.fails("9: no such argument, and there are 40", ARGUMENT, () -> office.protest(0, 0, Make.DNS, 1));
        Check.fails("9: not of it, no such code, and there are 40", STATE, () -> office.protest(1, 5, 9, 0));
        Check.fails("9: all four", INDEX, () -> office.protest(2, 6, 9, 0));
        Check.fails("9: there are 40", UnsupportedOperationException.class,
                () -> office.protest(0, 0, Make.DNS, 0));
        Check.fails("22: there may be 40, no such race", INDEX, () -> office.what(2, 0, 9, 0));
        Check.fails("22: there may be 40, not of it", STATE, () -> office.what(1, 5, 9, 0));
        Check.fails("22: there may be 40, no such code", ARGUMENT, () -> office.what(0, 0, 9, 0));
        Check.works("22: there may be 40", () -> office.what(0, 0, Make.DNS, 0));
    }

    private static void what() {
        RegattaOffice office = withGoldRace();
        int[][] wrong = {{0, 0}, {0, 100}, {9, 0}, {-1, 0}, {1, 1}, {8, 10000}, {8, -1},
                {Integer.MIN_VALUE, Integer.MIN_VALUE}, {Integer.MAX_VALUE, Integer.MAX_VALUE}};
        for (int[] entry : wrong) {
            Check.fails("22: no such race, no such entry", INDEX, () -> office.what(2, 5, entry[0], entry[1]));
            Check.fails("22: no such boat, no such entry", INDEX, () -> office.what(1, 6, entry[0], entry[1]));
            Check.fails("22: the race is not of it, no such entry", STATE,
                    () -> office.what(1, 5, entry[0], entry[1]));
            Check.fails("22: no such entry alone", ARGUMENT, () -> office.what(1, 0, entry[0], entry[1]));
        }
    }

    /** No decision can be both none and reopened: a reopened one keeps its number, the next one is none. */
    private static void reopen() {
        RegattaOffice office = Make.regatta(1, 1);
        office.protest(0, 0, Make.DNS, 0);
        office.reopen(0);
        Check.fails("10: it was before", STATE, () -> office.reopen(0));
        Check.fails("10: there is none such", INDEX, () -> office.reopen(1));
        Check.fails("10: there is none such", INDEX, () -> office.reopen(-1));
    }

    private static void discards() {
        RegattaOffice office = new RegattaOffice();
        for (int step = 1; step <= 6; step++) {
            office.discards(2 * step, 2 * step);
        }
        int[][] wrong = {{17, 13}, {0, 13}, {13, 16}, {13, 0}, {12, 13}, {13, 12}, {12, 12}, {1, 1},
                {Integer.MIN_VALUE, 13}, {13, Integer.MAX_VALUE}};
        for (int[] step : wrong) {
            Check.fails("11: (" + step[0] + ", " + step[1] + "), and there are 6", ARGUMENT,
                    () -> office.discards(step[0], step[1]));
        }
        Check.fails("11: there are 6", UnsupportedOperationException.class, () -> office.discards(13, 13));
        Check.fails("11: there are 6", UnsupportedOperationException.class, () -> office.discards(16, 15));
    }

    private static void lot() {
        RegattaOffice office = Make.regatta(2, 0);
        for (int lot : new int[] {-1, 1000, Integer.MIN_VALUE, Integer.MAX_VALUE}) {
            Check.fails("12: no such boat, not 0 .. 999", INDEX, () -> office.lot(2, lot));
            Check.fails("12: no such boat -1, not 0 .. 999", INDEX, () -> office.lot(-1, lot));
        }
    }

    private static void split() {
        int[][] wrong = {{0, 1}, {1, 0}, {3, 3}, {1, 5}, {5, 1}, {0, 0}, {Integer.MAX_VALUE, Integer.MAX_VALUE},
                {Integer.MIN_VALUE, 1}};
        RegattaOffice unsailed = Make.regatta(5, 1);
        RegattaOffice made = Make.regatta(5, 1);
        made.finish(0, 0, 1);
        made.split(1, 1);
        RegattaOffice both = Make.regatta(5, 1);
        both.finish(0, 0, 1);
        both.split(1, 1);
        both.abandon(0, true);
        for (int[] split : wrong) {
            Check.fails("13: no race is sailed, no such split", STATE, () -> unsailed.split(split[0], split[1]));
            Check.fails("13: it was made, no such split", STATE, () -> made.split(split[0], split[1]));
            Check.fails("13: made, none sailed, no such split", STATE, () -> both.split(split[0], split[1]));
            Check.fails("13: there is nothing at all", STATE, () -> new RegattaOffice().split(split[0], split[1]));
        }
    }

    private static void tie() {
        RegattaOffice office = Make.regatta(2, 0);
        for (int boat : new int[] {-1, 2, Integer.MIN_VALUE, Integer.MAX_VALUE}) {
            Check.fails("21: no such boat, and it is one", INDEX, () -> office.tie(boat, boat));
        }
        Check.fails("21: no boats at all", INDEX, () -> new RegattaOffice().tie(0, 0));
    }

    private static void told() {
        RegattaOffice office = Make.regatta(2, 0);
        for (int what : new int[] {-1, 4, Integer.MIN_VALUE, Integer.MAX_VALUE}) {
            Check.fails("24: no such boat, none of these", INDEX, () -> office.told(2, what));
            Check.fails("24: no such boat -1, none of these", INDEX, () -> office.told(-1, what));
        }
    }
}
