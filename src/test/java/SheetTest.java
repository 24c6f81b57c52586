/** Promises 25 and 26: the sheet and its bytes. */
final class SheetTest {
    private SheetTest() {
    }

    static void run() {
        withoutRaces();
        everyCode();
        discardedScores();
        fleetsAndMedals();
        theLatestSheet();
        numbersWithoutNeedlessZeros();
        sumsWithoutNeedlessZeros();
        rankAndNumberOfEachBoat();
        penaltiesThatAddNothing();
        theEntryThatCounts();
        discardedOfEachKind();
        onlySheetWrites();
        theLongestSheet();
    }

    private static void withoutRaces() {
        RegattaOffice office = Make.regatta(2, 1);
        Check.equal("25: without a sailed race", Make.sheet(office), "1. 0 0.0 (0.0)\n2. 1 0.0 (0.0)\n");
        Check.equal("25: without boats", Make.regatta(0, 2).sheet(), 0);
    }

    private static void everyCode() {
        RegattaOffice office = Make.regatta(11, 1);
        for (int code = Make.DNS; code <= Make.BEFORE; code++) {
            office.code(0, code, code, 0);
        }
        office.code(0, 8, Make.STATED, 5);
        office.finish(0, 0, 3);
        office.finish(0, 9, 4);
        office.penalty(0, 9, 1);
        Check.equal("25: every code", Make.sheet(office),
                "1. 8 0.5 (0.5) 0.5RDG\n"
                + "2. 0 1.0 (1.0) 1.0\n"
                + "3. 9 2.1 (2.1) 2.1SCP\n"
                + "4. 6 5.5 (5.5) 5.5RDA\n"
                + "5. 7 5.5 (5.5) 5.5RDB\n"
                + "6. 1 12.0 (12.0) 12.0DNS\n"
                + "7. 2 12.0 (12.0) 12.0OCS\n"
                + "8. 3 12.0 (12.0) 12.0RET\n"
                + "9. 4 12.0 (12.0) 12.0DSQ\n"
                + "10. 5 12.0 (12.0) 12.0DNE\n"
                + "11. 10 12.0 (12.0) 12.0DNC\n");
    }

    private static void discardedScores() {
        RegattaOffice office = Make.regatta(2, 3);
        Make.places(office, 0, 1, 2);
        Make.places(office, 1, 2, 1);
        office.penalty(1, 0, 100);
        office.discards(2, 1);
        Check.equal("25: discarded ones in [ ]", Make.sheet(office),
                "1. 1 1.0 (3.0) [2.0] 1.0\n2. 0 1.0 (4.0) 1.0 [3.0SCP]\n");
        office.abandon(0, true);
        Check.equal("25: without the abandoned one", Make.sheet(office),
                "1. 1 1.0 (1.0) 1.0\n2. 0 3.0 (3.0) 3.0SCP\n");
    }

    private static void fleetsAndMedals() {
        RegattaOffice office = Make.regatta(3, 1);
        Make.places(office, 0, 2, 1, 3);
        office.split(1, 1);
        int gold = office.race(Make.MEDAL, Make.GOLD);
        int silver = office.race(Make.FINAL, Make.SILVER);
        office.code(gold, 1, Make.STATED, 9999);
        office.code(silver, 0, Make.DSQ, 0);
        Check.equal("25: the races of its series alone, medals twice", Make.sheet(office),
                "1. 1 2000.8 (2000.8) 1.0 1999.8RDG\n"
                + "2. 0 4.0 (4.0) 2.0 2.0DSQ\n"
                + "3. 2 3.0 (3.0) 3.0\n");
    }

    private static void theLatestSheet() {
        RegattaOffice office = Make.regatta(1, 1);
        Check.fails("26: before the first sheet", IndexOutOfBoundsException.class, () -> office.sheetByte(0));
        int length = office.sheet();
        Check.equal("25: the length", length, 15);
        office.finish(0, 0, 1);
        Check.equal("26: as it was written", Make.written(office, length), "1. 0 0.0 (0.0)\n");
        for (int i : new int[] {15, -1, Integer.MIN_VALUE, Integer.MAX_VALUE}) {
            Check.fails("26: there is none", IndexOutOfBoundsException.class, () -> office.sheetByte(i));
        }
        Check.equal("25: a longer one", office.sheet(), 19);
        Check.equal("26: the new one", Make.written(office, 19), "1. 0 1.0 (1.0) 1.0\n");
        office.clear(0, 0);
        Check.equal("25: a shorter one", office.sheet(), 15);
        Check.equal("26: its last byte", office.sheetByte(14), 10);
        Check.fails("26: no byte of the one before", IndexOutOfBoundsException.class, () -> office.sheetByte(15));
    }

    private static void numbersWithoutNeedlessZeros() {
        String[] due = {"0.0", "0.1", "0.9", "1.0", "1.1", "9.9", "10.0", "10.1", "10.5", "99.9", "100.0", "100.1",
                "500.5", "999.0", "999.9"};
        for (String number : due) {
            RegattaOffice office = Make.regatta(1, 1);
            office.code(0, 0, Make.STATED, Integer.parseInt(number.replace(".", "")));
            Check.equal("25: " + number, Make.sheet(office),
                    "1. 0 " + number + " (" + number + ") " + number + "RDG\n");
        }
    }

    private static void sumsWithoutNeedlessZeros() {
        String[] due = {"9999.0", "9999.9", "10000.0", "10000.1", "10998.9"};
        for (String number : due) {
            RegattaOffice office = Make.regatta(1, 11);
            for (int race = 0; race < 10; race++) {
                office.code(race, 0, Make.STATED, 9999);
            }
            office.code(10, 0, Make.STATED, Integer.parseInt(number.replace(".", "")) - 99990);
            String sheet = Make.sheet(office);
            Check.equal("25: " + number, sheet.startsWith("1. 0 " + number + " (" + number + ") 999.9RDG "), true);
        }
    }

    private static void rankAndNumberOfEachBoat() {
        Script before = office -> {
            Make.fill(office, 40, 1);
            office.lot(39, 1);
        };
        StringBuilder due = new StringBuilder("1. 39 0.0 (0.0)\n");
        for (int boat = 0; boat < 39; boat++) {
            due.append(boat + 2).append(". ").append(boat).append(" 0.0 (0.0)\n");
        }
        Check.equal("25: 40 lines by rank", Make.sheetInParts(before, 400), due.toString());
    }

    private static void penaltiesThatAddNothing() {
        RegattaOffice office = Make.regatta(1, 1);
        office.finish(0, 0, 1);
        office.penalty(0, 0, 4);
        Check.equal("25: SCP for one with a penalty, 0.4 rounded to 0", Make.sheet(office),
                "1. 0 1.0 (1.0) 1.0SCP\n");
        office.penalty(0, 0, 1);
        Check.equal("25: SCP for the least", Make.sheet(office), "1. 0 1.0 (1.0) 1.0SCP\n");
        office.penalty(0, 0, 100);
        Check.equal("25: SCP for the most", Make.sheet(office), "1. 0 2.0 (2.0) 2.0SCP\n");
        office.penalty(0, 0, 0);
        Check.equal("25: nothing for 0, which is none", Make.sheet(office), "1. 0 1.0 (1.0) 1.0\n");
        office.penalty(0, 0, 50);
        office.code(0, 0, Make.DNS, 0);
        Check.equal("25: a code has none", Make.sheet(office), "1. 0 2.0 (2.0) 2.0DNS\n");
        office.finish(0, 0, 1);
        Check.equal("25: a new place has none", Make.sheet(office), "1. 0 1.0 (1.0) 1.0\n");
        office.penalty(0, 0, 50);
        office.protest(0, 0, Make.PLACE, 99);
        Check.equal("25: a decided place has none", Make.sheet(office), "1. 0 1.0 (1.0) 1.0\n");
        office.reopen(0);
        Check.equal("25: reopened, the one put in has", Make.sheet(office), "1. 0 1.5 (1.5) 1.5SCP\n");
    }

    private static void theEntryThatCounts() {
        RegattaOffice office = Make.regatta(1, 1);
        String[] names = {"", "DNS", "OCS", "RET", "DSQ", "DNE", "RDA", "RDB", "RDG"};
        for (int code = 0; code <= 8; code++) {
            int number = office.protest(0, 0, code, code == 0 ? 1 : 0);
            String score = code == 0 ? "1.0" : code <= Make.DNE ? "2.0" : code == Make.STATED ? "0.0" : "0.5";
            Check.equal("25: decision " + number, Make.sheet(office),
                    "1. 0 " + score + " (" + score + ") " + score + names[code] + "\n");
        }
    }

    private static void discardedOfEachKind() {
        RegattaOffice office = Make.regatta(2, 9);
        for (int code = 0; code <= 8; code++) {
            office.protest(code, 0, code, code == 0 ? 1 : 0);
        }
        office.discards(1, 15);
        Check.equal("25: within the [ ], too", Make.sheet(office),
                "1. 1 0.0 (27.0)" + " [3.0DNC]".repeat(9) + "\n"
                + "2. 0 3.0 (21.4) [1.0] [3.0DNS] [3.0OCS] [3.0RET] [3.0DSQ] 3.0DNE [2.7RDA] [2.7RDB] [0.0RDG]\n");
    }

    private static void onlySheetWrites() {
        RegattaOffice office = Make.splitRegatta();
        office.protest(0, 0, Make.DNS, 0);
        int length = office.sheet();
        String written = Make.written(office, length);
        office.what(0, 1, Make.DNE, 0);
        office.reopen(0);
        office.discards(1, 1);
        office.lot(0, 3);
        office.race(Make.FINAL, Make.GOLD);
        office.finish(1, 0, 1);
        office.penalty(1, 0, 50);
        office.code(1, 1, Make.DNE, 0);
        office.abandon(0, true);
        office.clear(0, 5);
        office.net(0);
        office.at(1);
        Check.equal("26: as it was written", Make.written(office, length), written);
        Check.fails("26: no byte more", IndexOutOfBoundsException.class, () -> office.sheetByte(length));
    }

    /** The longest sheet that 512 calls can bring about, or nearly so: no byte may be lost. */
    private static void theLongestSheet() {
        int entries = 448;
        Script before = office -> {
            Make.fill(office, 40, 16);
            office.discards(16, 15);
            for (int cell = 0; cell < entries; cell++) {
                office.code(cell % 16, 39 - cell / 16, Make.STATED, 9999);
            }
        };
        StringBuilder due = new StringBuilder();
        for (int boat = 0; boat < 12; boat++) {
            due.append(boat + 1).append(". ").append(boat).append(" 41.0 (656.0)");
            due.append(" [41.0DNC]".repeat(15)).append(" 41.0DNC\n");
        }
        for (int boat = 12; boat < 40; boat++) {
            due.append(boat + 1).append(". ").append(boat).append(" 999.9 (15998.4)");
            due.append(" [999.9RDG]".repeat(15)).append(" 999.9RDG\n");
        }
        Check.equal("25: its length", Make.after(before).sheet(), due.length());
        Check.equal("26: its bytes", Make.sheetInParts(before, 6), due.toString());
    }
}
