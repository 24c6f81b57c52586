/** Promises 9, 10 and 22: decisions, reopened ones and what would be if. */
final class DecisionsTest {
    private DecisionsTest() {
    }

    static void run() {
        decisions();
        everyCode();
        aDecisionAloneMakesARaceSailed();
        reopening();
        tooMany();
        wrongOnes();
        otherFleets();
        supposing();
        supposingAtTheLimit();
    }

    private static void decisions() {
        RegattaOffice office = Make.regatta(3, 2);
        Make.places(office, 0, 1, 2, 3);
        Check.equal("9: the first number", office.protest(0, 0, Make.DSQ, 0), 0);
        Check.equal("9: it counts", office.points(0, 0), 40);
        Check.equal("9: the boats behind move up", office.points(0, 1), 10);
        Check.equal("9: the next number", office.protest(0, 0, Make.PLACE, 2), 1);
        Check.equal("9: the latest counts, a dead heat", office.points(0, 0), 15);
        Check.equal("9: and for the other boat", office.points(0, 1), 15);
        Check.equal("9: on another boat", office.protest(0, 2, Make.STATED, 8), 2);
        Check.equal("9: the one on this boat stays", office.points(0, 0), 15);
        office.finish(0, 0, 9);
        office.clear(0, 0);
        Check.equal("9: whatever is put in", office.points(0, 0), 15);
    }

    private static void everyCode() {
        RegattaOffice office = Make.regatta(2, 2);
        Make.places(office, 0, 1, 2);
        Make.places(office, 1, 1, 2);
        for (int code = Make.DNS; code <= Make.DNE; code++) {
            office.protest(1, 0, code, 0);
            Check.equal("9: a code's points", office.points(1, 0), 30);
        }
        office.protest(1, 0, Make.AVERAGE, 0);
        Check.equal("9: AVERAGE", office.points(1, 0), 10);
        office.protest(1, 0, Make.BEFORE, 0);
        Check.equal("9: BEFORE", office.points(1, 0), 10);
        office.protest(1, 0, Make.STATED, 9999);
        Check.equal("9: STATED", office.points(1, 0), 9999);
        office.protest(1, 0, Make.PLACE, 99);
        Check.equal("9: the highest place", office.points(1, 0), 20);
        office.protest(1, 0, Make.PLACE, 1);
        Check.equal("9: the lowest place", office.points(1, 0), 10);
    }

    private static void aDecisionAloneMakesARaceSailed() {
        RegattaOffice office = Make.regatta(2, 1);
        office.protest(0, 1, Make.AVERAGE, 0);
        Check.equal("9: the race is sailed", office.told(0, 2), 1);
        Check.equal("9: the points of the other", office.points(0, 0), 30);
        office.reopen(0);
        Check.equal("10: it is sailed no longer", office.told(0, 2), 0);
    }

    private static void reopening() {
        RegattaOffice office = Make.regatta(3, 1);
        Make.places(office, 0, 1, 2, 3);
        office.protest(0, 0, Make.STATED, 1);
        office.protest(0, 0, Make.STATED, 2);
        office.protest(0, 0, Make.STATED, 3);
        office.reopen(1);
        Check.equal("10: an older one", office.points(0, 0), 3);
        office.reopen(2);
        Check.equal("10: the latest that is not reopened", office.points(0, 0), 1);
        Check.fails("10: once and for ever", IllegalStateException.class, () -> office.reopen(2));
        Check.equal("10: as before", office.points(0, 0), 1);
        office.reopen(0);
        Check.equal("10: what was put in", office.points(0, 0), 10);
        Check.equal("9: the number after reopened ones", office.protest(0, 0, Make.STATED, 4), 3);
        Check.equal("9: a new one is not reopened", office.points(0, 0), 4);
        for (int decision : new int[] {-1, 4, Integer.MIN_VALUE, Integer.MAX_VALUE}) {
            Check.fails("10: there is none such", IndexOutOfBoundsException.class, () -> office.reopen(decision));
        }
    }

    private static void tooMany() {
        RegattaOffice office = Make.regatta(2, 1);
        for (int decision = 0; decision < 40; decision++) {
            Check.equal("9: protest()", office.protest(0, 0, Make.STATED, decision), decision);
        }
        Check.fails("9: decision 40", UnsupportedOperationException.class,
                () -> office.protest(0, 0, Make.STATED, 77));
        Check.equal("9: a call that throws changes nothing", office.points(0, 0), 39);
        Check.fails("9: the index comes first", IndexOutOfBoundsException.class,
                () -> office.protest(1, 0, Make.STATED, 77));
        Check.fails("9: the argument comes first", IllegalArgumentException.class,
                () -> office.protest(0, 0, Make.STATED, 10000));
        Check.fails("10: there is no decision 40", IndexOutOfBoundsException.class, () -> office.reopen(40));
        office.reopen(39);
        Check.equal("10: the last one", office.points(0, 0), 38);
        Check.fails("9: reopened ones make no room", UnsupportedOperationException.class,
                () -> office.protest(0, 0, Make.STATED, 77));
    }

    private static void wrongOnes() {
        RegattaOffice office = Make.regatta(3, 2);
        int[][] places = {{-1, 0}, {2, 0}, {0, -1}, {0, 3}, {Integer.MAX_VALUE, 0}, {0, Integer.MIN_VALUE}};
        for (int[] at : places) {
            Check.fails("9: no such race or boat", IndexOutOfBoundsException.class,
                    () -> office.protest(at[0], at[1], 9, 0));
            Check.fails("22: no such race or boat", IndexOutOfBoundsException.class,
                    () -> office.what(at[0], at[1], 9, 0));
        }
        int[][] entries = {{0, 0}, {0, 100}, {0, -1}, {-1, 0}, {9, 0}, {1, 1}, {5, -1}, {6, 1}, {7, 1},
                {8, -1}, {8, 10000}, {Integer.MIN_VALUE, 0}, {Integer.MAX_VALUE, 0}};
        for (int[] entry : entries) {
            Check.fails("9: no such entry", IllegalArgumentException.class,
                    () -> office.protest(0, 0, entry[0], entry[1]));
            Check.fails("22: no such entry", IllegalArgumentException.class,
                    () -> office.what(0, 0, entry[0], entry[1]));
        }
        Check.equal("9: a call that throws changes nothing", office.told(0, 2), 0);
        Check.equal("9: nor does it take a number", office.protest(0, 0, 0, 1), 0);
    }

    private static void otherFleets() {
        RegattaOffice office = Make.splitRegatta();
        office.race(Make.FINAL, Make.BRONZE);
        for (int boat = 0; boat < 4; boat++) {
            int other = boat;
            Check.fails("9: the race is not of it", IllegalStateException.class,
                    () -> office.protest(1, other, 9, 0));
            Check.fails("22: the race is not of it", IllegalStateException.class,
                    () -> office.what(1, other, 9, 0));
        }
        Check.equal("9: the race is of it", office.protest(1, 4, Make.PLACE, 1), 0);
        Check.equal("22: the race is of it", office.what(1, 5, Make.PLACE, 1), 75);
    }

    private static void supposing() {
        RegattaOffice office = Make.regatta(3, 3);
        Make.places(office, 0, 1, 2, 3);
        Make.places(office, 1, 3, 1, 2);
        office.discards(3, 1);
        Check.equal("16: before", office.net(0), 40);
        Check.equal("22: DSQ", office.what(1, 0, Make.DSQ, 0), 50);
        Check.equal("22: NET is as before", office.net(0), 40);
        Check.equal("22: AVERAGE", office.what(1, 0, Make.AVERAGE, 0), 20);
        Check.equal("22: a place that another has, too", office.what(1, 0, Make.PLACE, 1), 25);
        Check.equal("22: a race becomes sailed, so that one is left out", office.what(2, 0, Make.PLACE, 1), 20);
        Check.equal("22: nothing changes", office.net(0), 40);
        Check.equal("22: the race is sailed no more than before", office.told(0, 2), 2);
        Check.equal("22: nothing changes for the others", office.net(1), 30);
        Check.equal("22: no number is taken", office.protest(1, 0, Make.STATED, 5), 0);
        Check.equal("22: behind the latest decision", office.what(1, 0, Make.STATED, 6), 16);
        Check.equal("22: it stands as before", office.net(0), 15);
        office.abandon(1, true);
        Check.equal("22: in an abandoned race", office.what(1, 0, Make.STATED, 900), 10);
        office.sheet();
        int first = office.sheetByte(0);
        office.what(0, 0, Make.DNE, 0);
        Check.equal("22: the order stays", Make.order(office, 3), "0 1 2");
        Check.equal("22: the sheet stays", office.sheetByte(0), first);
    }

    private static void supposingAtTheLimit() {
        RegattaOffice office = Make.regatta(2, 1);
        for (int decision = 0; decision < 40; decision++) {
            office.protest(0, 0, Make.STATED, decision);
        }
        Check.equal("22: there may be 40", office.what(0, 0, Make.STATED, 55), 55);
        Check.equal("22: nothing changes", office.net(0), 39);
        Check.fails("22: nor is there a decision 40", IndexOutOfBoundsException.class, () -> office.reopen(40));
    }
}
