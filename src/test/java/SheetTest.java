/** Promises 25 and 26: the sheet and its bytes. */
final class SheetTest {
    private SheetTest() {
    }

    static void run() {
        withoutRaces();
        everyCode();
        discardedScores();
        fleetsAndMedals();
        theLatestSheet();
        theLongestSheet();
    }

    private static void withoutRaces() {
        RegattaOffice office = Make.regatta(2, 1);
        Check.equal("25: without a sailed race", Make.sheet(office), "1. 0 0.0 (0.0)\n2. 1 0.0 (0.0)\n");
        Check.equal("25: without boats", Make.regatta(0, 2).sheet(), 0);
    }

    private static void everyCode() {
        RegattaOffice office = Make.regatta(11, 1);
        for (int code = Make.DNS; code <= Make.BEFORE; code++) {
            office.code(0, code, code, 0);
        }
        office.code(0, 8, Make.STATED, 5);
        office.finish(0, 0, 3);
        office.finish(0, 9, 4);
        office.penalty(0, 9, 1);
        Check.equal("25: every code", Make.sheet(office),
                "1. 8 0.5 (0.5) 0.5RDG\n"
                + "2. 0 1.0 (1.0) 1.0\n"
                + "3. 9 2.1 (2.1) 2.1SCP\n"
                + "4. 6 5.5 (5.5) 5.5RDA\n"
                + "5. 7 5.5 (5.5) 5.5RDB\n"
                + "6. 1 12.0 (12.0) 12.0DNS\n"
                + "7. 2 12.0 (12.0) 12.0OCS\n"
                + "8. 3 12.0 (12.0) 12.0RET\n"
                + "9. 4 12.0 (12.0) 12.0DSQ\n"
                + "10. 5 12.0 (12.0) 12.0DNE\n"
                + "11. 10 12.0 (12.0) 12.0DNC\n");
        office.protest(0, 9, Make.PLACE, 4);
        office.penalty(0, 0, 0);
        String sheet = Make.sheet(office);
        Check.equal("25: a decided place has no penalty", sheet.contains("SCP"), false);
    }

    private static void discardedScores() {
        RegattaOffice office = Make.regatta(2, 3);
        Make.places(office, 0, 1, 2);
        Make.places(office, 1, 2, 1);
        office.penalty(1, 0, 100);
        office.discards(2, 1);
        Check.equal("25: discarded ones in [ ]", Make.sheet(office),
                "1. 1 1.0 (3.0) [2.0] 1.0\n2. 0 1.0 (4.0) 1.0 [3.0SCP]\n");
        office.abandon(0, true);
        Check.equal("25: without the abandoned one", Make.sheet(office),
                "1. 1 1.0 (1.0) 1.0\n2. 0 3.0 (3.0) 3.0SCP\n");
    }

    private static void fleetsAndMedals() {
        RegattaOffice office = Make.regatta(3, 1);
        Make.places(office, 0, 2, 1, 3);
        office.split(1, 1);
        int gold = office.race(Make.MEDAL, Make.GOLD);
        int silver = office.race(Make.FINAL, Make.SILVER);
        office.code(gold, 1, Make.STATED, 9999);
        office.code(silver, 0, Make.DSQ, 0);
        Check.equal("25: the races of its series alone, medals twice", Make.sheet(office),
                "1. 1 2000.8 (2000.8) 1.0 1999.8RDG\n"
                + "2. 0 4.0 (4.0) 2.0 2.0DSQ\n"
                + "3. 2 3.0 (3.0) 3.0\n");
    }

    private static void theLatestSheet() {
        RegattaOffice office = Make.regatta(1, 1);
        Check.fails("26: before the first sheet", IndexOutOfBoundsException.class, () -> office.sheetByte(0));
        int length = office.sheet();
        Check.equal("25: the length", length, 15);
        office.finish(0, 0, 1);
        Check.equal("26: as it was written", Make.written(office, length), "1. 0 0.0 (0.0)\n");
        for (int i : new int[] {15, -1, Integer.MIN_VALUE, Integer.MAX_VALUE}) {
            Check.fails("26: there is none", IndexOutOfBoundsException.class, () -> office.sheetByte(i));
        }
        Check.equal("25: a longer one", office.sheet(), 19);
        Check.equal("26: the new one", Make.written(office, 19), "1. 0 1.0 (1.0) 1.0\n");
        office.clear(0, 0);
        Check.equal("25: a shorter one", office.sheet(), 15);
        Check.equal("26: its last byte", office.sheetByte(14), 10);
        Check.fails("26: no byte of the one before", IndexOutOfBoundsException.class, () -> office.sheetByte(15));
    }

    /** As many long scores as 512 calls can put in, and more: no byte may be lost. */
    private static void theLongestSheet() {
        RegattaOffice office = Make.regatta(40, 0);
        for (int race = 0; race < 16; race++) {
            office.race(race == 15 ? Make.MEDAL : Make.QUALIFYING, Make.ALL);
        }
        office.discards(16, 15);
        for (int boat = 0; boat < 40; boat++) {
            for (int race = 0; race < 16; race++) {
                office.code(race, boat, Make.STATED, 9999);
            }
        }
        String scores = " [999.9RDG]".repeat(15) + " 1999.8RDG\n";
        int due = 0;
        for (int boat = 0; boat < 40; boat++) {
            due += ((boat + 1) + ". " + boat + " 1999.8 (16998.3)" + scores).length();
        }
        Check.equal("25: the longest sheet", office.sheet(), due);
        Check.equal("26: its last line", Make.written(office, due).endsWith("40. 39 1999.8 (16998.3)" + scores), true);
    }
}
