import java.util.List;

/**
 * "A call that throws changes nothing": for each call that can be refused, and each exception it names, what was there
 * before stands behind it as it stood. Two objects with the same calls are compared, one of them with the refused call.
 * Likewise for calls that are answered and change nothing.
 */
final class RefusedTest {
    private static final Class<IndexOutOfBoundsException> INDEX = IndexOutOfBoundsException.class;
    private static final Class<IllegalStateException> STATE = IllegalStateException.class;
    private static final Class<IllegalArgumentException> ARGUMENT = IllegalArgumentException.class;
    private static final Class<UnsupportedOperationException> UNSUPPORTED = UnsupportedOperationException.class;

    private record Case(String what, Class<? extends RuntimeException> due, Script call) {
    }

    private RefusedTest() {
    }

    static void run() {
        all(beforeTheSplit(), RefusedTest::sailedBeforeTheSplit, 5, 4);
        all(questions(), RefusedTest::sailedBeforeTheSplit, 5, 4);
        all(answered(), RefusedTest::sailedBeforeTheSplit, 5, 4);
        all(answered(), RefusedTest::sailedBehindTheSplit, 5, 5);
        all(behindTheSplit(), RefusedTest::sailedBehindTheSplit, 5, 5);
        all(questions(), RefusedTest::sailedBehindTheSplit, 5, 5);
        all(List.of(new Case("13: no race is sailed", STATE, office -> office.split(1, 1))),
                RefusedTest::notSailed, 4, 2);
        fullBoats();
        fullRaces();
        fullDecisions();
        fullSteps();
        nothingAtAll();
    }

    private static void all(List<Case> cases, Script before, int boats, int races) {
        String answers = State.answers(Make.after(before), boats, races);
        String kept = State.kept(Make.after(before), boats, races);
        for (Case one : cases) {
            RegattaOffice asked = Make.after(before);
            check(one, asked);
            Check.equal(one.what + ": what is answered behind it", State.answers(asked, boats, races), answers);
            RegattaOffice usedUp = Make.after(before);
            check(one, usedUp);
            Check.equal(one.what + ": what is kept behind it", State.kept(usedUp, boats, races), kept);
        }
    }

    private static void check(Case one, RegattaOffice office) {
        if (one.due == null) {
            Check.works(one.what, () -> one.call.on(office));
        } else {
            Check.fails(one.what, one.due, () -> one.call.on(office));
        }
    }

    /** Places, penalties, codes, decisions over them, a reopened one, steps, lots, an abandoned race, an old sheet. */
    private static void sailedBeforeTheSplit(RegattaOffice office) {
        Make.fill(office, 5, 3);
        office.race(Make.MEDAL, Make.ALL);
        Make.places(office, 0, 1, 2, 3, 4, 0);
        Make.places(office, 1, 2, 2, 1, 0, 5);
        office.penalty(0, 0, 30);
        office.penalty(1, 1, 50);
        office.code(0, 4, Make.STATED, 77);
        office.code(1, 3, Make.DSQ, 0);
        office.protest(0, 1, Make.PLACE, 1);
        office.protest(0, 1, Make.STATED, 55);
        office.protest(1, 2, Make.DNE, 0);
        office.reopen(1);
        office.discards(1, 1);
        office.discards(3, 2);
        office.lot(2, 9);
        office.lot(3, 999);
        office.abandon(2, true);
        office.sheet();
        Make.places(office, 3, 5, 4, 3, 2, 1);
    }

    private static void sailedBehindTheSplit(RegattaOffice office) {
        sailedBeforeTheSplit(office);
        office.split(2, 2);
        office.race(Make.FINAL, office.told(0, 0));
        office.finish(4, 0, 3);
        office.penalty(4, 0, 10);
    }

    private static void notSailed(RegattaOffice office) {
        Make.fill(office, 4, 2);
        office.finish(1, 1, 1);
        office.abandon(1, true);
        office.lot(3, 4);
    }

    private static List<Case> beforeTheSplit() {
        return List.of(
                new Case("3: no such kind", ARGUMENT, office -> office.race(3, 0)),
                new Case("3: no such fleet", ARGUMENT, office -> office.race(0, 4)),
                new Case("3: a FINAL before the split", STATE, office -> office.race(1, 0)),
                new Case("3: not of ALL before the split", STATE, office -> office.race(2, 1)),
                new Case("4: no such race", INDEX, office -> office.abandon(4, true)),
                new Case("4: no such race", INDEX, office -> office.abandon(-1, false)),
                new Case("5: no such race", INDEX, office -> office.finish(4, 0, 9)),
                new Case("5: no such boat", INDEX, office -> office.finish(0, 5, 9)),
                new Case("5: no such boat", INDEX, office -> office.finish(1, -1, 9)),
                new Case("5: no such place, over a place with a penalty", ARGUMENT,
                        office -> office.finish(0, 0, 0)),
                new Case("5: no such place, over a code", ARGUMENT, office -> office.finish(1, 3, 100)),
                new Case("5: no such place, over nothing", ARGUMENT, office -> office.finish(0, 3, 100)),
                new Case("5: no such place, in a race that is not sailed", ARGUMENT,
                        office -> office.finish(2, 0, 100)),
                new Case("6: no such race", INDEX, office -> office.code(4, 0, Make.DNE, 0)),
                new Case("6: no such boat", INDEX, office -> office.code(0, 5, Make.DNE, 0)),
                new Case("6: no such boat", INDEX, office -> office.code(1, -1, Make.DNE, 0)),
                new Case("6: code 0, over a place with a penalty", ARGUMENT, office -> office.code(0, 0, 0, 1)),
                new Case("6: no such code, over a place", ARGUMENT, office -> office.code(0, 2, 9, 0)),
                new Case("6: no such argument, over a code", ARGUMENT, office -> office.code(0, 4, Make.DNS, 1)),
                new Case("6: no such number, over a number", ARGUMENT,
                        office -> office.code(0, 4, Make.STATED, 10000)),
                new Case("6: no such argument, over nothing", ARGUMENT, office -> office.code(1, 0, Make.DNS, 1)),
                new Case("7: no such race", INDEX, office -> office.penalty(4, 0, 80)),
                new Case("7: no such boat", INDEX, office -> office.penalty(0, 5, 80)),
                new Case("7: no such boat", INDEX, office -> office.penalty(1, -1, 80)),
                new Case("7: a code is put in", STATE, office -> office.penalty(1, 3, 80)),
                new Case("7: nothing is put in", STATE, office -> office.penalty(2, 0, 80)),
                new Case("7: below 0, over a penalty", ARGUMENT, office -> office.penalty(0, 0, -1)),
                new Case("7: above 100, over a penalty", ARGUMENT, office -> office.penalty(0, 0, 101)),
                new Case("7: above 100, over none", ARGUMENT, office -> office.penalty(0, 2, 101)),
                new Case("7: above 100, under a decision", ARGUMENT, office -> office.penalty(0, 1, 101)),
                new Case("8: no such race", INDEX, office -> office.clear(4, 0)),
                new Case("8: no such boat", INDEX, office -> office.clear(0, 5)),
                new Case("8: no such boat", INDEX, office -> office.clear(1, -1)),
                new Case("9: no such race", INDEX, office -> office.protest(4, 0, Make.DNE, 0)),
                new Case("9: no such boat", INDEX, office -> office.protest(0, 5, Make.DNE, 0)),
                new Case("9: no such boat", INDEX, office -> office.protest(1, -1, Make.DNE, 0)),
                new Case("9: no such place", ARGUMENT, office -> office.protest(0, 0, Make.PLACE, 100)),
                new Case("9: no such place, over a decision", ARGUMENT,
                        office -> office.protest(0, 1, Make.PLACE, 0)),
                new Case("9: no such code", ARGUMENT, office -> office.protest(0, 0, 9, 0)),
                new Case("9: no such argument", ARGUMENT, office -> office.protest(0, 0, Make.DNE, 1)),
                new Case("10: no decision 3", INDEX, office -> office.reopen(3)),
                new Case("10: no decision -1", INDEX, office -> office.reopen(-1)),
                new Case("10: it was before", STATE, office -> office.reopen(1)),
                new Case("11: from 0 races on", ARGUMENT, office -> office.discards(0, 3)),
                new Case("11: from 17 races on", ARGUMENT, office -> office.discards(17, 3)),
                new Case("11: 16 left out", ARGUMENT, office -> office.discards(4, 16)),
                new Case("11: races not above", ARGUMENT, office -> office.discards(3, 3)),
                new Case("11: n not above", ARGUMENT, office -> office.discards(4, 2)),
                new Case("12: no such boat", INDEX, office -> office.lot(5, 1)),
                new Case("12: no such boat", INDEX, office -> office.lot(-1, 1)),
                new Case("12: below 0", ARGUMENT, office -> office.lot(3, -1)),
                new Case("12: above 999", ARGUMENT, office -> office.lot(2, 1000)),
                new Case("13: gold below 1", ARGUMENT, office -> office.split(0, 2)),
                new Case("13: silver below 1", ARGUMENT, office -> office.split(2, 0)),
                new Case("13: not so many boats", ARGUMENT, office -> office.split(3, 3)),
                new Case("13: not so many boats, by far", ARGUMENT,
                        office -> office.split(Integer.MAX_VALUE, Integer.MAX_VALUE)));
    }

    /** Race 4 is of the fleet of boat 0, and boat 4 is in another one. */
    private static List<Case> behindTheSplit() {
        int other = 4;
        RegattaOffice made = Make.after(RefusedTest::sailedBehindTheSplit);
        Check.equal("13: two fleets", made.told(0, 0) == made.told(other, 0), false);
        return List.of(
                new Case("2: behind the split", STATE, RegattaOffice::boat),
                new Case("3: no such kind", ARGUMENT, office -> office.race(3, 1)),
                new Case("3: no such fleet", ARGUMENT, office -> office.race(1, 4)),
                new Case("3: QUALIFYING behind the split", STATE, office -> office.race(0, 1)),
                new Case("3: of ALL behind the split", STATE, office -> office.race(2, 0)),
                new Case("5: the race is not of it", STATE, office -> office.finish(4, other, 1)),
                new Case("5: no such place", ARGUMENT, office -> office.finish(4, 0, 100)),
                new Case("6: the race is not of it", STATE, office -> office.code(4, other, Make.DNS, 0)),
                new Case("6: no such code", ARGUMENT, office -> office.code(4, 0, 9, 0)),
                new Case("7: the race is not of it", STATE, office -> office.penalty(4, other, 10)),
                new Case("7: above 100", ARGUMENT, office -> office.penalty(4, 0, 101)),
                new Case("8: no such race", INDEX, office -> office.clear(5, 0)),
                new Case("9: the race is not of it", STATE, office -> office.protest(4, other, Make.DNS, 0)),
                new Case("9: no such code", ARGUMENT, office -> office.protest(4, 0, 9, 0)),
                new Case("13: it was made", STATE, office -> office.split(1, 1)),
                new Case("13: it was made, likewise", STATE, office -> office.split(2, 2)),
                new Case("13: it was made, no such split", STATE, office -> office.split(0, 0)),
                new Case("22: the race is not of it", STATE, office -> office.what(4, other, Make.DNS, 0)));
    }

    private static List<Case> questions() {
        return List.of(
                new Case("14: no such race", INDEX, office -> office.points(5, 0)),
                new Case("14: no such boat", INDEX, office -> office.points(0, 5)),
                new Case("15: no such race", INDEX, office -> office.isDiscard(-1, 0)),
                new Case("15: no such boat", INDEX, office -> office.isDiscard(0, 5)),
                new Case("16: no such boat", INDEX, office -> office.net(5)),
                new Case("17: no such boat", INDEX, office -> office.gross(-1)),
                new Case("18: no such boat", INDEX, office -> office.mean(5)),
                new Case("19: no such boat", INDEX, office -> office.rank(5)),
                new Case("20: no rank 0", INDEX, office -> office.at(0)),
                new Case("20: no rank 6", INDEX, office -> office.at(6)),
                new Case("21: no such boat", INDEX, office -> office.tie(0, 5)),
                new Case("21: it is one boat", ARGUMENT, office -> office.tie(2, 2)),
                new Case("22: no such race", INDEX, office -> office.what(5, 0, Make.DNE, 0)),
                new Case("22: no such boat", INDEX, office -> office.what(0, 5, Make.DNE, 0)),
                new Case("22: no such place", ARGUMENT, office -> office.what(0, 0, Make.PLACE, 100)),
                new Case("22: no such code", ARGUMENT, office -> office.what(0, 0, 9, 0)),
                new Case("22: no such argument", ARGUMENT, office -> office.what(0, 0, Make.DNE, 1)),
                new Case("23: no such race", INDEX, office -> office.missing(5, 0)),
                new Case("24: no such boat", INDEX, office -> office.told(5, 0)),
                new Case("24: none of these", ARGUMENT, office -> office.told(0, 4)),
                new Case("26: no byte -1", INDEX, office -> office.sheetByte(-1)),
                new Case("26: no byte so far off", INDEX, office -> office.sheetByte(Integer.MAX_VALUE)));
    }

    private static List<Case> answered() {
        return List.of(
                new Case("4: abandoned again", null, office -> office.abandon(2, true)),
                new Case("4: not abandoned, still", null, office -> office.abandon(0, false)),
                new Case("4: abandoned and no longer", null, office -> {
                    office.abandon(0, true);
                    office.abandon(0, false);
                }),
                new Case("4: no longer abandoned and again", null, office -> {
                    office.abandon(2, false);
                    office.abandon(2, true);
                }),
                new Case("5: the same place without a penalty", null, office -> office.finish(0, 2, 3)),
                new Case("6: the same code", null, office -> office.code(1, 3, Make.DSQ, 0)),
                new Case("7: the same penalty", null, office -> office.penalty(0, 0, 30)),
                new Case("7: no penalty, still", null, office -> office.penalty(0, 2, 0)),
                new Case("8: nothing was put in", null, office -> office.clear(2, 0)),
                new Case("12: the same lot", null, office -> office.lot(3, 999)),
                new Case("14: points", null, office -> office.points(0, 0)),
                new Case("22: over a place with a penalty", null, office -> office.what(0, 0, Make.PLACE, 9)),
                new Case("22: over a code", null, office -> office.what(1, 3, Make.STATED, 1)),
                new Case("22: over a decision", null, office -> office.what(0, 1, Make.DNE, 0)),
                new Case("22: over a DNE", null, office -> office.what(1, 2, Make.AVERAGE, 0)),
                new Case("22: over nothing", null, office -> office.what(0, 3, Make.BEFORE, 0)),
                new Case("22: in an abandoned race", null, office -> office.what(2, 0, Make.DNS, 0)),
                new Case("22: twice", null, office -> {
                    office.what(0, 0, Make.PLACE, 9);
                    office.what(0, 0, Make.PLACE, 9);
                }));
    }

    private static void fullBoats() {
        Script before = office -> {
            Make.fill(office, 40, 1);
            office.finish(0, 0, 1);
            office.lot(39, 5);
        };
        all(List.of(new Case("2: there are 40", UNSUPPORTED, RegattaOffice::boat)), before, 2, 1);
        RegattaOffice office = Make.after(before);
        Check.fails("2: there are 40", UNSUPPORTED, office::boat);
        Check.equal("2: as many in the race", office.points(0, 39), 410);
        Check.equal("2: as many missing", office.missing(0, 38), 39);
        Check.equal("2: no more missing", office.missing(0, 39), RegattaOffice.NONE);
        Check.equal("2: the last rank", office.at(40), 38);
        Check.fails("2: no rank behind it", INDEX, () -> office.at(41));
        Check.equal("2: the lot of the last one", office.lot(39, 0), 5);
    }

    private static void fullRaces() {
        Script before = office -> {
            Make.fill(office, 2, 15);
            office.race(Make.MEDAL, Make.ALL);
            office.finish(0, 0, 1);
            office.finish(15, 1, 1);
            office.abandon(14, true);
        };
        all(List.of(new Case("3: there are 16", UNSUPPORTED, office -> office.race(0, 0)),
                new Case("3: there are 16, a MEDAL race", UNSUPPORTED, office -> office.race(2, 0))), before, 2, 16);
        RegattaOffice office = Make.after(before);
        Check.fails("3: there are 16", UNSUPPORTED, () -> office.race(0, 0));
        Check.equal("3: the last one is a MEDAL race still", office.gross(1), 30 + 20);
    }

    private static void fullDecisions() {
        Script before = office -> {
            Make.fill(office, 2, 1);
            for (int decision = 0; decision < 40; decision++) {
                office.protest(0, decision % 2, Make.STATED, 100 + decision);
            }
            office.reopen(20);
        };
        all(List.of(new Case("9: there are 40", UNSUPPORTED, office -> office.protest(0, 0, Make.STATED, 7)),
                new Case("9: there are 40, a place", UNSUPPORTED, office -> office.protest(0, 1, Make.PLACE, 1)),
                new Case("10: no decision 40", INDEX, office -> office.reopen(40)),
                new Case("10: it was before", STATE, office -> office.reopen(20))), before, 2, 1);
    }

    private static void fullSteps() {
        Script before = office -> {
            Make.fill(office, 2, 1);
            office.finish(0, 0, 1);
            for (int step = 1; step <= 6; step++) {
                office.discards(2 * step, 2 * step - 1);
            }
        };
        all(List.of(new Case("11: there are 6", UNSUPPORTED, office -> office.discards(13, 12)),
                new Case("11: there are 6, the greatest", UNSUPPORTED, office -> office.discards(16, 15))),
                before, 2, 1);
    }

    private static void nothingAtAll() {
        Script[] refused = {office -> office.race(1, 0), office -> office.abandon(0, true),
                office -> office.finish(0, 0, 1), office -> office.code(0, 0, 1, 0),
                office -> office.penalty(0, 0, 1), office -> office.clear(0, 0),
                office -> office.protest(0, 0, 1, 0), office -> office.reopen(0),
                office -> office.discards(0, 0), office -> office.lot(0, 1), office -> office.split(1, 1),
                office -> office.what(0, 0, 1, 0), office -> office.sheetByte(0)};
        for (Script call : refused) {
            RegattaOffice office = new RegattaOffice();
            Check.equal("1: an empty object refuses", State.answerOf(() -> State.done(() -> call.on(office)))
                    .toString().startsWith("throws."), true);
            Check.equal("1: no race", State.answerOf(() -> office.missing(0, 0)), "throws.IndexOutOfBoundsException");
            Check.equal("1: an empty sheet", office.sheet(), 0);
            Check.equal("1: the first boat", office.boat(), 0);
            Check.equal("1: its lot", office.lot(0, 0), 0);
            Check.equal("1: the first race", office.race(0, 0), 0);
            Check.equal("1: it is not abandoned", office.abandon(0, false), false);
            Check.equal("1: nothing is put in", office.clear(0, 0), false);
            Check.equal("1: the first decision", office.protest(0, 0, 1, 0), 0);
            Check.equal("1: no step", office.told(0, 3), 0);
            Check.works("1: the least step", () -> office.discards(1, 1));
        }
    }
}
