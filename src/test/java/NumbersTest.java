import java.util.List;

/**
 * Each number that the document bounds, promise by promise: the last ones that are still allowed, and on both sides
 * the first ones that are not, with far ones behind them.
 */
final class NumbersTest {
    private interface OnRaceAndBoat {
        void call(RegattaOffice office, int race, int boat);
    }

    private interface OnNumber {
        void call(RegattaOffice office, int number);
    }

    private record RaceAndBoatCall(String name, OnRaceAndBoat on) {
    }

    private record NumberCall(String name, OnNumber on) {
    }

    private static final List<RaceAndBoatCall> ON_RACE_AND_BOAT = List.of(
            new RaceAndBoatCall("5: finish", (office, race, boat) -> office.finish(race, boat, 1)),
            new RaceAndBoatCall("7: penalty", (office, race, boat) -> office.penalty(race, boat, 1)),
            new RaceAndBoatCall("6: code", (office, race, boat) -> office.code(race, boat, Make.DNS, 0)),
            new RaceAndBoatCall("8: clear", RegattaOffice::clear),
            new RaceAndBoatCall("9: protest", (office, race, boat) -> office.protest(race, boat, Make.PLACE, 1)),
            new RaceAndBoatCall("14: points", RegattaOffice::points),
            new RaceAndBoatCall("15: isDiscard", RegattaOffice::isDiscard),
            new RaceAndBoatCall("22: what", (office, race, boat) -> office.what(race, boat, Make.PLACE, 1)));

    private static final List<NumberCall> ON_BOAT = List.of(
            new NumberCall("12: lot", (office, boat) -> office.lot(boat, 1)),
            new NumberCall("16: net", RegattaOffice::net),
            new NumberCall("17: gross", RegattaOffice::gross),
            new NumberCall("18: mean", RegattaOffice::mean),
            new NumberCall("19: rank", RegattaOffice::rank),
            new NumberCall("24: told 0", (office, boat) -> office.told(boat, 0)),
            new NumberCall("24: told 1", (office, boat) -> office.told(boat, 1)),
            new NumberCall("24: told 2", (office, boat) -> office.told(boat, 2)),
            new NumberCall("24: told 3", (office, boat) -> office.told(boat, 3)));

    private static final List<NumberCall> ON_RACE = List.of(
            new NumberCall("4: abandon", (office, race) -> office.abandon(race, true)),
            new NumberCall("4: no longer", (office, race) -> office.abandon(race, false)),
            new NumberCall("23: missing", (office, race) -> office.missing(race, 0)));

    private NumbersTest() {
    }

    static void run() {
        int[][] sizes = {{1, 1}, {1, 16}, {40, 1}, {40, 16}, {7, 5}};
        for (int[] size : sizes) {
            racesAndBoats(size[0], size[1]);
            boats(size[0], size[1]);
            races(size[0], size[1]);
            pairsOfBoats(size[0]);
            ranks(size[0]);
        }
        racesAndBoats(0, 0);
        boats(0, 3);
        races(3, 0);
        pairsOfBoats(0);
        ranks(0);
        kinds();
        fleetsBeforeTheSplit();
        fleetsBehindTheSplit();
        places();
        percents();
        codesWithoutArgument();
        noSuchCodes();
        stated();
        lots();
        raceCountsOfSteps();
        leftOutBySteps();
        stepsAboveTheLatest();
        golds();
        silvers();
        goldAndSilverTogether();
        sumsThatWrapAround();
        decisions();
        missingBoats();
        toldOnes();
        bytes();
    }

    /** "No such race or boat": the numbers are 0 .. so many as there are, less one. */
    private static void racesAndBoats(int boats, int races) {
        for (RaceAndBoatCall call : ON_RACE_AND_BOAT) {
            RegattaOffice office = Make.regatta(boats, races);
            if (boats > 0 && races > 0) {
                for (int race : new int[] {0, races - 1}) {
                    for (int boat : new int[] {0, boats - 1}) {
                        office.finish(race, boat, 9);
                        Check.works(call.name + "(" + race + ", " + boat + ")",
                                () -> call.on.call(office, race, boat));
                    }
                }
            }
            // A number that is too great or too small must not fall into the row of another race.
            for (int race : Make.outside(0, races - 1)) {
                for (int boat : new int[] {0, boats - 1, boats, -1}) {
                    Check.fails(call.name + "(" + race + ", " + boat + ")", IndexOutOfBoundsException.class,
                            () -> call.on.call(office, race, boat));
                }
            }
            for (int boat : Make.outside(0, boats - 1)) {
                for (int race : new int[] {0, races - 1}) {
                    Check.fails(call.name + "(" + race + ", " + boat + ")", IndexOutOfBoundsException.class,
                            () -> call.on.call(office, race, boat));
                }
            }
        }
    }

    private static void boats(int boats, int races) {
        for (NumberCall call : ON_BOAT) {
            within(call, Make.regatta(boats, races), 0, boats - 1);
        }
    }

    private static void races(int boats, int races) {
        for (NumberCall call : ON_RACE) {
            within(call, Make.regatta(boats, races), 0, races - 1);
        }
    }

    private static void ranks(int boats) {
        within(new NumberCall("20: at", RegattaOffice::at), Make.regatta(boats, 1), 1, boats);
    }

    private static void within(NumberCall call, RegattaOffice office, int first, int last) {
        if (first <= last) {
            Check.works(call.name + " of " + first, () -> call.on.call(office, first));
            Check.works(call.name + " of " + last, () -> call.on.call(office, last));
        }
        for (int number : Make.outside(first, last)) {
            Check.fails(call.name + " of " + number, IndexOutOfBoundsException.class,
                    () -> call.on.call(office, number));
        }
    }

    private static void pairsOfBoats(int boats) {
        RegattaOffice office = Make.regatta(boats, 1);
        if (boats > 1) {
            Check.equal("21: the first and the last boat", office.tie(0, boats - 1), 4);
            Check.equal("21: the last and the first boat", office.tie(boats - 1, 0), 4);
        }
        if (boats > 0) {
            Check.fails("21: it is one boat, the first", IllegalArgumentException.class, () -> office.tie(0, 0));
            Check.fails("21: it is one boat, the last", IllegalArgumentException.class,
                    () -> office.tie(boats - 1, boats - 1));
        }
        for (int boat : Make.outside(0, boats - 1)) {
            Check.fails("21: no such boat a " + boat, IndexOutOfBoundsException.class, () -> office.tie(boat, 0));
            Check.fails("21: no such boat b " + boat, IndexOutOfBoundsException.class, () -> office.tie(0, boat));
        }
    }

    private static void kinds() {
        RegattaOffice office = Make.regatta(1, 0);
        Check.equal("3: kind 0 is the first", office.race(0, 0), 0);
        Check.equal("3: kind 2 is the last", office.race(2, 0), 1);
        for (int kind : Make.outside(0, 2)) {
            Check.fails("3: kind " + kind, IllegalArgumentException.class, () -> office.race(kind, 0));
        }
        RegattaOffice behind = Make.splitRegatta();
        Check.equal("3: kind 1 behind the split", behind.race(1, 1), 1);
        Check.equal("3: kind 2 behind the split", behind.race(2, 1), 2);
        for (int kind : Make.outside(0, 2)) {
            Check.fails("3: kind " + kind + " behind the split", IllegalArgumentException.class,
                    () -> behind.race(kind, 1));
        }
    }

    private static void fleetsBeforeTheSplit() {
        RegattaOffice office = Make.regatta(3, 0);
        Check.equal("3: fleet 0", office.race(0, 0), 0);
        Check.fails("3: fleet 1 before the split", IllegalStateException.class, () -> office.race(0, 1));
        Check.fails("3: fleet 3 is the last", IllegalStateException.class, () -> office.race(0, 3));
        for (int fleet : Make.outside(0, 3)) {
            Check.fails("3: fleet " + fleet, IllegalArgumentException.class, () -> office.race(0, fleet));
        }
    }

    private static void fleetsBehindTheSplit() {
        RegattaOffice office = Make.splitRegatta();
        Check.fails("3: fleet 0 behind the split", IllegalStateException.class, () -> office.race(1, 0));
        Check.equal("3: fleet 1 is the first of the others", office.race(1, 1), 1);
        Check.equal("3: fleet 3 is the last", office.race(1, 3), 2);
        for (int fleet : Make.outside(0, 3)) {
            Check.fails("3: fleet " + fleet, IllegalArgumentException.class, () -> office.race(1, fleet));
        }
    }

    private static void places() {
        RegattaOffice office = Make.regatta(2, 1);
        for (int place : new int[] {1, 99}) {
            Check.works("5: place " + place, () -> office.finish(0, 0, place));
            Check.works("9: place " + place, () -> office.protest(0, 0, Make.PLACE, place));
            Check.equal("22: place " + place, office.what(0, 0, Make.PLACE, place), 10);
        }
        office.finish(0, 1, 98);
        Check.equal("5: 99 is behind 98", office.points(0, 0), 20);
        for (int place : Make.outside(1, 99)) {
            Check.fails("5: place " + place, IllegalArgumentException.class, () -> office.finish(0, 0, place));
            Check.fails("9: place " + place, IllegalArgumentException.class,
                    () -> office.protest(0, 0, Make.PLACE, place));
            Check.fails("22: place " + place, IllegalArgumentException.class,
                    () -> office.what(0, 0, Make.PLACE, place));
        }
    }

    private static void percents() {
        RegattaOffice office = Make.regatta(10, 1);
        office.finish(0, 0, 1);
        int[][] due = {{1, 11}, {99, 109}, {100, 110}, {0, 10}};
        for (int[] percent : due) {
            office.penalty(0, 0, percent[0]);
            Check.equal("7: percent " + percent[0], office.points(0, 0), percent[1]);
        }
        for (int percent : Make.outside(0, 100)) {
            Check.fails("7: percent " + percent, IllegalArgumentException.class,
                    () -> office.penalty(0, 0, percent));
        }
    }

    private static void codesWithoutArgument() {
        for (int number = Make.DNS; number <= Make.BEFORE; number++) {
            int code = number;
            RegattaOffice office = Make.regatta(2, 1);
            Check.works("6: code " + code, () -> office.code(0, 0, code, 0));
            Check.equal("9: code " + code, office.protest(0, 0, code, 0), 0);
            Check.equal("22: code " + code, office.what(0, 0, code, 0), code <= Make.DNE ? 30 : 10);
            for (int argument : Make.outside(0, 0)) {
                Check.fails("6: code " + code + " with " + argument, IllegalArgumentException.class,
                        () -> office.code(0, 0, code, argument));
                Check.fails("9: code " + code + " with " + argument, IllegalArgumentException.class,
                        () -> office.protest(0, 0, code, argument));
                Check.fails("22: code " + code + " with " + argument, IllegalArgumentException.class,
                        () -> office.what(0, 0, code, argument));
            }
        }
    }

    /** Code 0 stands for a place in protest() and what() alone. */
    private static void noSuchCodes() {
        RegattaOffice office = Make.regatta(2, 1);
        for (int argument : new int[] {0, 1, 99}) {
            Check.fails("6: code 0 with " + argument, IllegalArgumentException.class,
                    () -> office.code(0, 0, 0, argument));
            for (int code : Make.outside(0, 8)) {
                Check.fails("6: code " + code, IllegalArgumentException.class,
                        () -> office.code(0, 0, code, argument));
                Check.fails("9: code " + code, IllegalArgumentException.class,
                        () -> office.protest(0, 0, code, argument));
                Check.fails("22: code " + code, IllegalArgumentException.class,
                        () -> office.what(0, 0, code, argument));
            }
        }
    }

    private static void stated() {
        RegattaOffice office = Make.regatta(2, 1);
        for (int argument : new int[] {0, 1, 255, 256, 9998, 9999}) {
            office.code(0, 0, Make.STATED, argument);
            Check.equal("6: STATED " + argument, office.points(0, 0), argument);
            office.protest(0, 1, Make.STATED, argument);
            Check.equal("9: STATED " + argument, office.points(0, 1), argument);
            Check.equal("22: STATED " + argument, office.what(0, 0, Make.STATED, argument), argument);
        }
        for (int argument : Make.outside(0, 9999)) {
            Check.fails("6: STATED " + argument, IllegalArgumentException.class,
                    () -> office.code(0, 0, Make.STATED, argument));
            Check.fails("9: STATED " + argument, IllegalArgumentException.class,
                    () -> office.protest(0, 0, Make.STATED, argument));
            Check.fails("22: STATED " + argument, IllegalArgumentException.class,
                    () -> office.what(0, 0, Make.STATED, argument));
        }
    }

    private static void lots() {
        RegattaOffice office = Make.regatta(2, 0);
        int before = 0;
        for (int lot : new int[] {999, 0, 1, 255, 256, 998, 999}) {
            Check.equal("12: which it had ahead of " + lot, office.lot(1, lot), before);
            Check.equal("24: lot " + lot, office.told(1, 1), lot);
            before = lot;
        }
        for (int lot : Make.outside(0, 999)) {
            Check.fails("12: lot " + lot, IllegalArgumentException.class, () -> office.lot(1, lot));
        }
        Check.equal("24: at first 0", office.told(0, 1), 0);
    }

    private static void raceCountsOfSteps() {
        for (int races : new int[] {1, 16}) {
            Check.works("11: from " + races + " races on", () -> new RegattaOffice().discards(races, 1));
        }
        for (int races : Make.outside(1, 16)) {
            Check.fails("11: from " + races + " races on", IllegalArgumentException.class,
                    () -> new RegattaOffice().discards(races, 1));
        }
    }

    private static void leftOutBySteps() {
        for (int n : new int[] {1, 15}) {
            Check.works("11: " + n + " left out", () -> new RegattaOffice().discards(1, n));
            Check.works("11: " + n + " left out of 16", () -> new RegattaOffice().discards(16, n));
        }
        for (int n : Make.outside(1, 15)) {
            Check.fails("11: " + n + " left out", IllegalArgumentException.class,
                    () -> new RegattaOffice().discards(16, n));
        }
    }

    /** "One of them not above that of the latest step": just above is allowed, equal is not, and lower is not. */
    private static void stepsAboveTheLatest() {
        int[][] refused = {{8, 8}, {8, 7}, {9, 7}, {7, 8}, {8, 6}, {9, 6}, {1, 1}, {16, 7}, {8, 15}, {1, 15}, {16, 1}};
        RegattaOffice office = new RegattaOffice();
        office.discards(8, 7);
        for (int[] step : refused) {
            Check.fails("11: (" + step[0] + ", " + step[1] + ") behind (8, 7)", IllegalArgumentException.class,
                    () -> office.discards(step[0], step[1]));
        }
        Check.works("11: (9, 8) behind (8, 7)", () -> office.discards(9, 8));
        Check.fails("11: the latest is (9, 8) now", IllegalArgumentException.class, () -> office.discards(10, 8));
        Check.works("11: (16, 15) behind (9, 8)", () -> office.discards(16, 15));
        for (int races = 1; races <= 17; races++) {
            int from = races;
            Check.fails("11: nothing is above (16, 15)", IllegalArgumentException.class,
                    () -> office.discards(from, 16));
        }
    }

    private static RegattaOffice sailed(int boats) {
        RegattaOffice office = Make.regatta(boats, 1);
        office.finish(0, boats - 1, 1);
        return office;
    }

    private static void golds() {
        Check.equal("13: gold 1", sailed(40).split(1, 1), 38);
        Check.equal("13: gold 39", sailed(40).split(39, 1), 0);
        for (int gold : Make.outside(1, 39)) {
            Check.fails("13: gold " + gold, IllegalArgumentException.class, () -> sailed(40).split(gold, 1));
        }
    }

    private static void silvers() {
        Check.equal("13: silver 39", sailed(40).split(1, 39), 0);
        for (int silver : Make.outside(1, 39)) {
            Check.fails("13: silver " + silver, IllegalArgumentException.class, () -> sailed(40).split(1, silver));
        }
    }

    private static void goldAndSilverTogether() {
        Check.equal("13: just so many boats", sailed(5).split(3, 2), 0);
        Check.equal("13: one boat more", sailed(5).split(2, 2), 1);
        Check.fails("13: one boat too few", IllegalArgumentException.class, () -> sailed(5).split(3, 3));
        Check.fails("13: one boat too few", IllegalArgumentException.class, () -> sailed(5).split(4, 2));
        Check.equal("13: two boats are enough", sailed(2).split(1, 1), 0);
        Check.fails("13: one boat is not", IllegalArgumentException.class, () -> sailed(1).split(1, 1));
        Check.fails("13: both below 1", IllegalArgumentException.class, () -> sailed(5).split(0, 0));
        Check.fails("13: one below 1 makes no room", IllegalArgumentException.class, () -> sailed(5).split(-1, 6));
        Check.fails("13: one below 1 makes no room", IllegalArgumentException.class, () -> sailed(5).split(6, -1));
    }

    private static void sumsThatWrapAround() {
        int half = 1 << 30;
        int[][] splits = {{Integer.MAX_VALUE, 1}, {1, Integer.MAX_VALUE}, {Integer.MAX_VALUE, Integer.MAX_VALUE},
                {half, half}, {half, Integer.MAX_VALUE}, {Integer.MIN_VALUE, Integer.MIN_VALUE},
                {Integer.MIN_VALUE, Integer.MAX_VALUE}, {Integer.MAX_VALUE, Integer.MIN_VALUE},
                {Integer.MIN_VALUE + 2, Integer.MIN_VALUE + 2}, {Integer.MAX_VALUE, 2}, {4, Integer.MAX_VALUE - 2}};
        for (int[] split : splits) {
            Check.fails("13: split(" + split[0] + ", " + split[1] + ")", IllegalArgumentException.class,
                    () -> sailed(5).split(split[0], split[1]));
        }
    }

    private static void decisions() {
        for (int made : new int[] {0, 1, 40}) {
            RegattaOffice office = Make.regatta(1, 1);
            for (int decision = 0; decision < made; decision++) {
                Check.equal("9: its number", office.protest(0, 0, Make.DNS, 0), decision);
            }
            for (int decision : Make.outside(0, made - 1)) {
                Check.fails("10: decision " + decision + " of " + made, IndexOutOfBoundsException.class,
                        () -> office.reopen(decision));
            }
            if (made > 0) {
                Check.works("10: the last decision", () -> office.reopen(made - 1));
                Check.fails("10: it was before", IllegalStateException.class, () -> office.reopen(made - 1));
            }
            if (made > 1) {
                Check.works("10: the first decision", () -> office.reopen(0));
                Check.fails("10: it was before", IllegalStateException.class, () -> office.reopen(0));
            }
        }
    }

    private static void missingBoats() {
        RegattaOffice office = Make.regatta(40, 2);
        for (int k : new int[] {0, 1, 38, 39}) {
            Check.equal("23: all are missing, boat " + k, office.missing(0, k), k);
        }
        office.finish(0, 0, 1);
        office.code(0, 20, Make.DNS, 0);
        office.protest(0, 39, Make.DSQ, 0);
        int[][] due = {{0, 1}, {18, 19}, {19, 21}, {36, 38}, {37, -1}, {38, -1}, {39, -1}, {40, -1}};
        for (int[] boat : due) {
            Check.equal("23: boat k " + boat[0], office.missing(0, boat[0]), boat[1]);
        }
        for (int k : Make.outside(0, 36)) {
            Check.equal("23: no boat k " + k, office.missing(0, k), RegattaOffice.NONE);
        }
        for (int k : Make.outside(0, 39)) {
            Check.equal("23: all are missing, but no boat k " + k, office.missing(1, k), RegattaOffice.NONE);
        }
    }

    private static void toldOnes() {
        RegattaOffice office = Make.splitRegatta();
        office.lot(5, 77);
        office.discards(1, 1);
        int[] due = {3, 77, 1, 1};
        for (int what = 0; what <= 3; what++) {
            Check.equal("24: what " + what, office.told(5, what), due[what]);
        }
        for (int what : Make.outside(0, 3)) {
            Check.fails("24: what " + what, IllegalArgumentException.class, () -> office.told(5, what));
        }
    }

    private static void bytes() {
        RegattaOffice office = Make.regatta(1, 0);
        for (int i : Make.outside(0, -1)) {
            Check.fails("26: byte " + i + " of no sheet", IndexOutOfBoundsException.class,
                    () -> office.sheetByte(i));
        }
        int length = office.sheet();
        Check.equal("26: the first byte", office.sheetByte(0), (int) '1');
        Check.equal("26: the last byte", office.sheetByte(length - 1), 10);
        for (int i : Make.outside(0, length - 1)) {
            Check.fails("26: byte " + i + " of " + length, IndexOutOfBoundsException.class,
                    () -> office.sheetByte(i));
        }
    }
}
