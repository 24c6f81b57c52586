/** Regattas that many tests begin with, and what they read of them. */
final class Make {
    static final int QUALIFYING = 0;
    static final int FINAL = 1;
    static final int MEDAL = 2;

    static final int ALL = 0;
    static final int GOLD = 1;
    static final int SILVER = 2;
    static final int BRONZE = 3;

    static final int PLACE = 0;
    static final int DNS = 1;
    static final int OCS = 2;
    static final int RET = 3;
    static final int DSQ = 4;
    static final int DNE = 5;
    static final int AVERAGE = 6;
    static final int BEFORE = 7;
    static final int STATED = 8;

    private Make() {
    }

    static RegattaOffice regatta(int boats, int races) {
        RegattaOffice office = new RegattaOffice();
        for (int boat = 0; boat < boats; boat++) {
            office.boat();
        }
        for (int race = 0; race < races; race++) {
            office.race(QUALIFYING, ALL);
        }
        return office;
    }

    /** Boat 0 with the first of the places, boat 1 with the second, and so on; 0 stands for no entry. */
    static void places(RegattaOffice office, int race, int... places) {
        for (int boat = 0; boat < places.length; boat++) {
            if (places[boat] != 0) {
                office.finish(race, boat, places[boat]);
            }
        }
    }

    /** Six boats; 0 and 1 in GOLD, 2 and 3 in SILVER, 4 and 5 in BRONZE; race 0 is sailed. */
    static RegattaOffice splitRegatta() {
        RegattaOffice office = regatta(6, 1);
        places(office, 0, 1, 2, 3, 4, 5, 6);
        office.split(2, 2);
        return office;
    }

    static String order(RegattaOffice office, int boats) {
        StringBuilder order = new StringBuilder();
        for (int rank = 1; rank <= boats; rank++) {
            order.append(rank == 1 ? "" : " ").append(office.at(rank));
        }
        return order.toString();
    }

    static String sheet(RegattaOffice office) {
        return written(office, office.sheet());
    }

    static String written(RegattaOffice office, int length) {
        StringBuilder text = new StringBuilder();
        for (int i = 0; i < length; i++) {
            text.append((char) office.sheetByte(i));
        }
        return text.toString();
    }
}
