import java.util.Arrays;

/** Regattas that many tests begin with, and what they read of them. */
final class Make {
    static final int QUALIFYING = 0;
    static final int FINAL = 1;
    static final int MEDAL = 2;

    static final int ALL = 0;
    static final int GOLD = 1;
    static final int SILVER = 2;
    static final int BRONZE = 3;

    static final int PLACE = 0;
    static final int DNS = 1;
    static final int OCS = 2;
    static final int RET = 3;
    static final int DSQ = 4;
    static final int DNE = 5;
    static final int AVERAGE = 6;
    static final int BEFORE = 7;
    static final int STATED = 8;

    private Make() {
    }

    static RegattaOffice regatta(int boats, int races) {
        return after(office -> fill(office, boats, races));
    }

    static void fill(RegattaOffice office, int boats, int races) {
        for (int boat = 0; boat < boats; boat++) {
            office.boat();
        }
        for (int race = 0; race < races; race++) {
            office.race(QUALIFYING, ALL);
        }
    }

    /** Boat 0 with the first of the places, boat 1 with the second, and so on; 0 stands for no entry. */
    static void places(RegattaOffice office, int race, int... places) {
        for (int boat = 0; boat < places.length; boat++) {
            if (places[boat] != 0) {
                office.finish(race, boat, places[boat]);
            }
        }
    }

    /** Six boats; 0 and 1 in GOLD, 2 and 3 in SILVER, 4 and 5 in BRONZE; race 0 is sailed. */
    static RegattaOffice splitRegatta() {
        RegattaOffice office = regatta(6, 1);
        places(office, 0, 1, 2, 3, 4, 5, 6);
        office.split(2, 2);
        return office;
    }

    static RegattaOffice after(Script calls) {
        RegattaOffice office = new RegattaOffice();
        calls.on(office);
        return office;
    }

    /**
     * Numbers that are not first .. last: the next ones, far ones, and ones that would be within if they were cut
     * to fewer bits.
     */
    static int[] outside(int first, int last) {
        int[] numbers = {first - 1, last + 1, -first - 1, -last - 1, first - 256, last + 256, first - 65536,
                last + 65536, first + (1 << 30), Integer.MIN_VALUE, Integer.MIN_VALUE + last, Integer.MAX_VALUE};
        return Arrays.stream(numbers).filter(number -> number < first || number > last).distinct().toArray();
    }

    static String order(RegattaOffice office, int boats) {
        StringBuilder order = new StringBuilder();
        for (int rank = 1; rank <= boats; rank++) {
            order.append(rank == 1 ? "" : " ").append(office.at(rank));
        }
        return order.toString();
    }

    static String sheet(RegattaOffice office) {
        return written(office, office.sheet());
    }

    static String written(RegattaOffice office, int length) {
        StringBuilder text = new StringBuilder();
        for (int i = 0; i < length; i++) {
            text.append((char) office.sheetByte(i));
        }
        return text.toString();
    }

    /** A sheet that is too long to be read from one object, which is promised for 512 calls only: from many alike. */
    static String sheetInParts(Script before, int bytesOfEach) {
        int length = after(before).sheet();
        StringBuilder text = new StringBuilder();
        for (int first = 0; first < length; first += bytesOfEach) {
            RegattaOffice office = after(before);
            office.sheet();
            for (int i = first; i < Math.min(length, first + bytesOfEach); i++) {
                text.append((char) office.sheetByte(i));
            }
        }
        return text.toString();
    }
}
