import java.util.Arrays;

/** Scores a series of sailing races in tenths of a point; ../shared/DOC.md says what each call promises. */
public final class RegattaOffice {
    public static final int NONE = -1;

    private static final int MAX_BOATS = 40;
    private static final int MAX_RACES = 16;
    private static final int MAX_DECISIONS = 40;
    private static final int MAX_STEPS = 6;
    private static final int MAX_LEFT_OUT = 15;
    private static final int MAX_LOT = 999;
    private static final int MAX_PLACE = 99;
    private static final int MAX_PERCENT = 100;
    private static final int MAX_STATED = 9999;
    private static final int CELLS = MAX_RACES * MAX_BOATS;

    private static final int QUALIFYING = 0;
    private static final int FINAL = 1;
    private static final int MEDAL = 2;

    private static final int ALL = 0;
    private static final int GOLD = 1;
    private static final int SILVER = 2;
    private static final int BRONZE = 3;

    private static final int NO_ENTRY = -1;
    private static final int PLACE = 0;
    private static final int DNS = 1;
    private static final int OCS = 2;
    private static final int RET = 3;
    private static final int DSQ = 4;
    private static final int DNE = 5;
    private static final int AVERAGE = 6;
    private static final int BEFORE = 7;
    private static final int STATED = 8;

    private static final int TOLD_FLEET = 0;
    private static final int TOLD_LOT = 1;
    private static final int TOLD_SERIES = 2;
    private static final int TOLD_DISCARDED = 3;

    private final Boats boats = new Boats();
    private final Races races = new Races();
    private final Entries putIn = new Entries();
    private final Decisions decisions = new Decisions();
    private final Steps steps = new Steps();
    private final PointTable pointTable = new PointTable(boats, races, putIn, decisions);
    private final ScoreTable scoreTable = new ScoreTable(boats, races, steps, pointTable);
    private final Ranking ranking = new Ranking(boats, races, pointTable, scoreTable);
    private final Sheet latestSheet = new Sheet();
    private boolean stale = true;

    public RegattaOffice() {
    }

    public int boat() throws IllegalStateException, UnsupportedOperationException {
        if (boats.areSplit) {
            throw new IllegalStateException("the split was made");
        }
        if (boats.size >= MAX_BOATS) {
            throw new UnsupportedOperationException("there are 40 boats");
        }
        stale = true;
        return boats.addOne();
    }

    public int race(int kind, int fleet)
            throws IllegalArgumentException, IllegalStateException, UnsupportedOperationException {
        if (kind < QUALIFYING || kind > MEDAL || fleet < ALL || fleet > BRONZE) {
            throw new IllegalArgumentException("no such kind or fleet");
        }
        if (!fitsTheSplit(kind, fleet)) {
            throw new IllegalStateException("no such race on this side of the split");
        }
        if (races.size >= MAX_RACES) {
            throw new UnsupportedOperationException("there are 16 races");
        }
        stale = true;
        return races.addOne(kind, fleet);
    }

    public boolean abandon(int race, boolean on) throws IndexOutOfBoundsException {
        requireRace(race);
        boolean wasAbandoned = races.abandoned[race];
        races.abandoned[race] = on;
        stale = true;
        return wasAbandoned;
    }

    public void finish(int race, int boat, int place)
            throws IndexOutOfBoundsException, IllegalStateException, IllegalArgumentException {
        requireRaceOfBoat(race, boat);
        requireEntry(PLACE, place);
        putIn.put(cell(race, boat), PLACE, place);
        stale = true;
    }

    public void code(int race, int boat, int code, int argument)
            throws IndexOutOfBoundsException, IllegalStateException, IllegalArgumentException {
        requireRaceOfBoat(race, boat);
        if (code == PLACE) {
            throw new IllegalArgumentException("no such code");
        }
        requireEntry(code, argument);
        putIn.put(cell(race, boat), code, argument);
        stale = true;
    }

    public void penalty(int race, int boat, int percent)
            throws IndexOutOfBoundsException, IllegalStateException, IllegalArgumentException {
        requireRaceAndBoat(race, boat);
        if (putIn.codes[cell(race, boat)] != PLACE) {
            throw new IllegalStateException("no place is put in");
        }
        if (percent < 0 || percent > MAX_PERCENT) {
            throw new IllegalArgumentException("no such percentage");
        }
        putIn.percents[cell(race, boat)] = percent;
        stale = true;
    }

    public boolean clear(int race, int boat) throws IndexOutOfBoundsException {
        requireRaceAndBoat(race, boat);
        boolean wasThere = putIn.isAt(cell(race, boat));
        putIn.remove(cell(race, boat));
        stale = true;
        return wasThere;
    }

    public int protest(int race, int boat, int code, int argument) throws IndexOutOfBoundsException,
            IllegalStateException, IllegalArgumentException, UnsupportedOperationException {
        requireRaceOfBoat(race, boat);
        requireEntry(code, argument);
        if (decisions.size >= MAX_DECISIONS) {
            throw new UnsupportedOperationException("there are 40 decisions");
        }
        stale = true;
        return decisions.addOne(cell(race, boat), code, argument);
    }

    public void reopen(int decision) throws IndexOutOfBoundsException, IllegalStateException {
        if (decision < 0 || decision >= decisions.size) {
            throw new IndexOutOfBoundsException("no such decision");
        }
        if (decisions.reopened[decision]) {
            throw new IllegalStateException("it was reopened before");
        }
        decisions.reopened[decision] = true;
        stale = true;
    }

    public void discards(int races, int n) throws IllegalArgumentException, UnsupportedOperationException {
        if (races < 1 || races > MAX_RACES || n < 1 || n > MAX_LEFT_OUT) {
            throw new IllegalArgumentException("no such step");
        }
        if (!steps.isAboveLatest(races, n)) {
            throw new IllegalArgumentException("not above the latest step");
        }
        if (steps.size >= MAX_STEPS) {
            throw new UnsupportedOperationException("there are 6 steps");
        }
        steps.addOne(races, n);
        stale = true;
    }

    public int lot(int boat, int lot) throws IndexOutOfBoundsException, IllegalArgumentException {
        requireBoat(boat);
        if (lot < 0 || lot > MAX_LOT) {
            throw new IllegalArgumentException("no such lot");
        }
        int before = boats.lots[boat];
        boats.lots[boat] = lot;
        stale = true;
        return before;
    }

    public int split(int gold, int silver) throws IllegalStateException, IllegalArgumentException {
        bringUpToDate();
        if (boats.areSplit || !pointTable.isAnyRaceSailed()) {
            throw new IllegalStateException("the split was made, or no race is sailed");
        }
        // Not gold + silver > size: the sum of two great numbers would wrap around.
        if (gold < 1 || silver < 1 || gold > boats.size || silver > boats.size - gold) {
            throw new IllegalArgumentException("no such split");
        }
        for (int rank = 1; rank <= boats.size; rank++) {
            boats.fleets[ranking.boatOfRank(rank)] = fleetOfRank(rank, gold, silver);
        }
        boats.areSplit = true;
        stale = true;
        return boats.size - gold - silver;
    }

    public int points(int race, int boat) throws IndexOutOfBoundsException {
        requireRaceAndBoat(race, boat);
        bringUpToDate();
        return pointTable.points[cell(race, boat)];
    }

    public boolean isDiscard(int race, int boat) throws IndexOutOfBoundsException {
        requireRaceAndBoat(race, boat);
        bringUpToDate();
        return scoreTable.discarded[cell(race, boat)];
    }

    public int net(int boat) throws IndexOutOfBoundsException {
        requireBoat(boat);
        bringUpToDate();
        return scoreTable.nets[boat];
    }

    public int gross(int boat) throws IndexOutOfBoundsException {
        requireBoat(boat);
        bringUpToDate();
        return scoreTable.grosses[boat];
    }

    public double mean(int boat) throws IndexOutOfBoundsException {
        requireBoat(boat);
        bringUpToDate();
        int inSeries = scoreTable.seriesSizes[boat];
        return inSeries == 0 ? 0.0 : (double) scoreTable.grosses[boat] / (double) (10 * inSeries);
    }

    public int rank(int boat) throws IndexOutOfBoundsException {
        requireBoat(boat);
        bringUpToDate();
        return ranking.rankOfBoat(boat);
    }

    public int at(int rank) throws IndexOutOfBoundsException {
        if (rank < 1 || rank > boats.size) {
            throw new IndexOutOfBoundsException("no such rank");
        }
        bringUpToDate();
        return ranking.boatOfRank(rank);
    }

    public int tie(int a, int b) throws IndexOutOfBoundsException, IllegalArgumentException {
        requireBoat(a);
        requireBoat(b);
        if (a == b) {
            throw new IllegalArgumentException("it is one boat");
        }
        bringUpToDate();
        return ranking.partingStep(a, b);
    }

    public int what(int race, int boat, int code, int argument)
            throws IndexOutOfBoundsException, IllegalStateException, IllegalArgumentException {
        requireRaceOfBoat(race, boat);
        requireEntry(code, argument);
        // Supposed for this one answer only: dropped again, and the tables worked out anew when next asked.
        decisions.addOne(cell(race, boat), code, argument);
        pointTable.calculate();
        scoreTable.calculate();
        decisions.dropLatest();
        stale = true;
        return scoreTable.nets[boat];
    }

    public int missing(int race, int k) throws IndexOutOfBoundsException {
        requireRace(race);
        bringUpToDate();
        int left = k;
        for (int boat = 0; boat < boats.size; boat++) {
            if (pointTable.isMissing(race, boat)) {
                if (left == 0) {
                    return boat;
                }
                left--;
            }
        }
        return NONE;
    }

    public int told(int boat, int what) throws IndexOutOfBoundsException, IllegalArgumentException {
        requireBoat(boat);
        bringUpToDate();
        switch (what) {
            case TOLD_FLEET:
                return boats.fleets[boat];
            case TOLD_LOT:
                return boats.lots[boat];
            case TOLD_SERIES:
                return scoreTable.seriesSizes[boat];
            case TOLD_DISCARDED:
                return scoreTable.discardCounts[boat];
            default:
                throw new IllegalArgumentException("nothing is told of this");
        }
    }

    public int sheet() {
        bringUpToDate();
        latestSheet.restart();
        for (int rank = 1; rank <= boats.size; rank++) {
            writeLine(rank, ranking.boatOfRank(rank));
        }
        return latestSheet.length;
    }

    public int sheetByte(int i) throws IndexOutOfBoundsException {
        if (i < 0 || i >= latestSheet.length) {
            throw new IndexOutOfBoundsException("no such byte");
        }
        return latestSheet.bytes[i];
    }

    private static int cell(int race, int boat) {
        return race * MAX_BOATS + boat;
    }

    private void requireRace(int race) {
        if (race < 0 || race >= races.size) {
            throw new IndexOutOfBoundsException("no such race");
        }
    }

    private void requireBoat(int boat) {
        if (boat < 0 || boat >= boats.size) {
            throw new IndexOutOfBoundsException("no such boat");
        }
    }

    private void requireRaceAndBoat(int race, int boat) {
        requireRace(race);
        requireBoat(boat);
    }

    private void requireRaceOfBoat(int race, int boat) {
        requireRaceAndBoat(race, boat);
        if (!boats.isIn(boat, races.fleets[race])) {
            throw new IllegalStateException("the race is not of the boat");
        }
    }

    private static void requireEntry(int code, int argument) {
        if (!isEntry(code, argument)) {
            throw new IllegalArgumentException("no such place, code or argument");
        }
    }

    private static boolean isEntry(int code, int argument) {
        if (code == PLACE) {
            return argument >= 1 && argument <= MAX_PLACE;
        }
        if (code == STATED) {
            return argument >= 0 && argument <= MAX_STATED;
        }
        return code >= DNS && code <= BEFORE && argument == 0;
    }

    private boolean fitsTheSplit(int kind, int fleet) {
        if (boats.areSplit) {
            return kind != QUALIFYING && fleet != ALL;
        }
        return kind != FINAL && fleet == ALL;
    }

    private static int fleetOfRank(int rank, int gold, int silver) {
        if (rank <= gold) {
            return GOLD;
        }
        return rank <= gold + silver ? SILVER : BRONZE;
    }

    private void bringUpToDate() {
        if (stale) {
            pointTable.calculate();
            scoreTable.calculate();
            ranking.calculate();
            stale = false;
        }
    }

    private void writeLine(int rank, int boat) {
        latestSheet.putNumber(rank);
        latestSheet.putText(". ");
        latestSheet.putNumber(boat);
        latestSheet.putText(" ");
        latestSheet.putTenths(scoreTable.nets[boat]);
        latestSheet.putText(" (");
        latestSheet.putTenths(scoreTable.grosses[boat]);
        latestSheet.putText(")");
        for (int race = 0; race < races.size; race++) {
            if (pointTable.inSeries[cell(race, boat)]) {
                writeScore(cell(race, boat));
            }
        }
        latestSheet.putText("\n");
    }

    private void writeScore(int cell) {
        boolean isLeftOut = scoreTable.discarded[cell];
        latestSheet.putText(isLeftOut ? " [" : " ");
        latestSheet.putTenths(scoreTable.scores[cell]);
        latestSheet.putText(shortName(pointTable.counting.codes[cell], pointTable.counting.percents[cell]));
        latestSheet.putText(isLeftOut ? "]" : "");
    }

    private static String shortName(int code, int percent) {
        switch (code) {
            case PLACE:
                return percent == 0 ? "" : "SCP";
            case DNS:
                return "DNS";
            case OCS:
                return "OCS";
            case RET:
                return "RET";
            case DSQ:
                return "DSQ";
            case DNE:
                return "DNE";
            case AVERAGE:
                return "RDA";
            case BEFORE:
                return "RDB";
            case STATED:
                return "RDG";
            default:
                return "DNC";
        }
    }

    private static final class Boats {
        final int[] fleets = new int[MAX_BOATS];
        final int[] lots = new int[MAX_BOATS];
        int size;
        boolean areSplit;

        int addOne() {
            size++;
            return size - 1;
        }

        boolean isIn(int boat, int fleet) {
            return fleet == ALL || fleet == fleets[boat];
        }

        int countIn(int fleet) {
            int count = 0;
            for (int boat = 0; boat < size; boat++) {
                if (isIn(boat, fleet)) {
                    count++;
                }
            }
            return count;
        }
    }

    private static final class Races {
        final int[] kinds = new int[MAX_RACES];
        final int[] fleets = new int[MAX_RACES];
        final boolean[] abandoned = new boolean[MAX_RACES];
        int size;

        int addOne(int kind, int fleet) {
            kinds[size] = kind;
            fleets[size] = fleet;
            size++;
            return size - 1;
        }
    }

    /** An entry, or none, in each cell: that of a boat in a race. */
    private static final class Entries {
        final int[] codes = new int[CELLS];
        final int[] arguments = new int[CELLS];
        final int[] percents = new int[CELLS];

        Entries() {
            Arrays.fill(codes, NO_ENTRY);
        }

        void put(int cell, int code, int argument) {
            codes[cell] = code;
            arguments[cell] = argument;
            percents[cell] = 0;
        }

        void remove(int cell) {
            codes[cell] = NO_ENTRY;
        }

        void copyAll(Entries from) {
            System.arraycopy(from.codes, 0, codes, 0, CELLS);
            System.arraycopy(from.arguments, 0, arguments, 0, CELLS);
            System.arraycopy(from.percents, 0, percents, 0, CELLS);
        }

        boolean isAt(int cell) {
            return codes[cell] != NO_ENTRY;
        }

        boolean isRedressAt(int cell) {
            return codes[cell] == AVERAGE || codes[cell] == BEFORE || codes[cell] == STATED;
        }
    }

    private static final class Decisions {
        // One more than there may be: what() supposes one behind all of them.
        final int[] cells = new int[MAX_DECISIONS + 1];
        final int[] codes = new int[MAX_DECISIONS + 1];
        final int[] arguments = new int[MAX_DECISIONS + 1];
        final boolean[] reopened = new boolean[MAX_DECISIONS + 1];
        int size;

        int addOne(int cell, int code, int argument) {
            cells[size] = cell;
            codes[size] = code;
            arguments[size] = argument;
            size++;
            return size - 1;
        }

        void dropLatest() {
            size--;
        }

        void putInto(Entries entries) {
            for (int decision = 0; decision < size; decision++) {
                if (!reopened[decision]) {
                    entries.put(cells[decision], codes[decision], arguments[decision]);
                }
            }
        }
    }

    private static final class Steps {
        final int[] raceCounts = new int[MAX_STEPS];
        final int[] leftOut = new int[MAX_STEPS];
        int size;

        void addOne(int raceCount, int n) {
            raceCounts[size] = raceCount;
            leftOut[size] = n;
            size++;
        }

        boolean isAboveLatest(int raceCount, int n) {
            return size == 0 || raceCount > raceCounts[size - 1] && n > leftOut[size - 1];
        }

        int allowedOf(int seriesSize) {
            int allowed = 0;
            for (int step = 0; step < size; step++) {
                if (raceCounts[step] <= seriesSize) {
                    allowed = leftOut[step];
                }
            }
            return allowed;
        }
    }

    /** The entries that count, the races that are sailed and the points of all boats in them. */
    private static final class PointTable {
        final Entries counting = new Entries();
        final boolean[] inSeries = new boolean[CELLS];
        final int[] points = new int[CELLS];
        private final Boats boats;
        private final Races races;
        private final Entries putIn;
        private final Decisions decisions;
        private final boolean[] sailed = new boolean[MAX_RACES];
        private final int[] sizes = new int[MAX_RACES];
        private final int[] withPlace = new int[MAX_PLACE + 1];
        private final int[] withLowerPlace = new int[MAX_PLACE + 1];

        PointTable(Boats boats, Races races, Entries putIn, Decisions decisions) {
            this.boats = boats;
            this.races = races;
            this.putIn = putIn;
            this.decisions = decisions;
        }

        void calculate() {
            counting.copyAll(putIn);
            decisions.putInto(counting);
            for (int race = 0; race < races.size; race++) {
                sizes[race] = boats.countIn(races.fleets[race]);
                sailed[race] = !races.abandoned[race] && hasEntry(race);
                scoreRace(race);
            }
            // Behind all races, as an average needs the points in the others.
            for (int race = 0; race < races.size; race++) {
                scoreAverages(race);
            }
        }

        boolean isMissing(int race, int boat) {
            return boats.isIn(boat, races.fleets[race]) && !counting.isAt(cell(race, boat));
        }

        boolean isAnyRaceSailed() {
            for (int race = 0; race < races.size; race++) {
                if (sailed[race]) {
                    return true;
                }
            }
            return false;
        }

        private boolean hasEntry(int race) {
            for (int boat = 0; boat < boats.size; boat++) {
                if (counting.isAt(cell(race, boat))) {
                    return true;
                }
            }
            return false;
        }

        private void scoreRace(int race) {
            countPlaces(race);
            for (int boat = 0; boat < boats.size; boat++) {
                int cell = cell(race, boat);
                inSeries[cell] = sailed[race] && boats.isIn(boat, races.fleets[race]);
                points[cell] = inSeries[cell] ? pointsWithoutOthers(race, cell) : NONE;
            }
        }

        private void countPlaces(int race) {
            Arrays.fill(withPlace, 0);
            for (int boat = 0; boat < boats.size; boat++) {
                int cell = cell(race, boat);
                if (counting.codes[cell] == PLACE) {
                    withPlace[counting.arguments[cell]]++;
                }
            }
            for (int place = 1; place <= MAX_PLACE; place++) {
                withLowerPlace[place] = withLowerPlace[place - 1] + withPlace[place - 1];
            }
        }

        private int pointsWithoutOthers(int race, int cell) {
            switch (counting.codes[cell]) {
                case PLACE:
                    return pointsOfPlace(race, counting.arguments[cell], counting.percents[cell]);
                case STATED:
                    return counting.arguments[cell];
                default:
                    return pointsOfLast(race);
            }
        }

        private int pointsOfPlace(int race, int place, int percent) {
            int plain = 10 * (1 + withLowerPlace[place]) + 5 * (withPlace[place] - 1);
            int more = (sizes[race] * percent + 5) / 10;
            // Plain points are never above 10 N, so that the limit touches none without a penalty.
            return Math.min(plain + more, pointsOfLast(race));
        }

        private int pointsOfLast(int race) {
            return 10 * sizes[race] + 10;
        }

        private void scoreAverages(int race) {
            for (int boat = 0; boat < boats.size; boat++) {
                int cell = cell(race, boat);
                if (inSeries[cell] && counting.codes[cell] == AVERAGE) {
                    points[cell] = averageBelow(races.size, race, boat);
                } else if (inSeries[cell] && counting.codes[cell] == BEFORE) {
                    points[cell] = averageBelow(race, race, boat);
                }
            }
        }

        private int averageBelow(int end, int race, int boat) {
            int sum = 0;
            int count = 0;
            // The race itself is not among them: its entry is redress.
            for (int other = 0; other < end; other++) {
                int cell = cell(other, boat);
                if (inSeries[cell] && !counting.isRedressAt(cell)) {
                    sum += points[cell];
                    count++;
                }
            }
            return count == 0 ? 5 * sizes[race] : (2 * sum + count) / (2 * count);
        }
    }

    /** What is discarded, and what the boats' scores come to. */
    private static final class ScoreTable {
        final int[] scores = new int[CELLS];
        final boolean[] discarded = new boolean[CELLS];
        final int[] seriesSizes = new int[MAX_BOATS];
        final int[] discardCounts = new int[MAX_BOATS];
        final int[] grosses = new int[MAX_BOATS];
        final int[] nets = new int[MAX_BOATS];
        private final Boats boats;
        private final Races races;
        private final Steps steps;
        private final PointTable pointTable;

        ScoreTable(Boats boats, Races races, Steps steps, PointTable pointTable) {
            this.boats = boats;
            this.races = races;
            this.steps = steps;
            this.pointTable = pointTable;
        }

        void calculate() {
            for (int boat = 0; boat < boats.size; boat++) {
                addUp(boat);
                leaveOut(boat);
            }
        }

        private void addUp(int boat) {
            seriesSizes[boat] = 0;
            grosses[boat] = 0;
            for (int race = 0; race < races.size; race++) {
                int cell = cell(race, boat);
                if (pointTable.inSeries[cell]) {
                    scores[cell] = pointTable.points[cell] * (races.kinds[race] == MEDAL ? 2 : 1);
                    seriesSizes[boat]++;
                    grosses[boat] += scores[cell];
                }
            }
        }

        private void leaveOut(int boat) {
            for (int race = 0; race < races.size; race++) {
                discarded[cell(race, boat)] = false;
            }
            discardCounts[boat] = 0;
            nets[boat] = grosses[boat];
            int allowed = steps.allowedOf(seriesSizes[boat]);
            for (int n = 0; n < allowed; n++) {
                int race = worstLeft(boat);
                if (race == NONE) {
                    return;
                }
                discarded[cell(race, boat)] = true;
                discardCounts[boat]++;
                nets[boat] -= scores[cell(race, boat)];
            }
        }

        private int worstLeft(int boat) {
            int worst = NONE;
            for (int race = 0; race < races.size; race++) {
                if (canLeaveOut(race, boat)
                        && (worst == NONE || scores[cell(race, boat)] > scores[cell(worst, boat)])) {
                    worst = race;
                }
            }
            return worst;
        }

        private boolean canLeaveOut(int race, int boat) {
            int cell = cell(race, boat);
            return pointTable.inSeries[cell]
                    && !discarded[cell]
                    && races.kinds[race] != MEDAL
                    && pointTable.counting.codes[cell] != DNE;
        }
    }

    /**
     * The order of the boats. What it goes by stands in one row of numbers a boat, so that the first
     * difference of two rows tells both which boat is before and by which step.
     */
    private static final class Ranking {
        private static final int FLEET_COLUMN = 0;
        private static final int NET_COLUMN = 1;
        private static final int KEPT_COLUMN = 2;
        private static final int SERIES_COLUMN = KEPT_COLUMN + MAX_RACES;
        private static final int LOT_COLUMN = SERIES_COLUMN + MAX_RACES;
        private static final int NUMBER_COLUMN = LOT_COLUMN + 1;
        private static final int COLUMNS = NUMBER_COLUMN + 1;
        // Above every score and lot: a boat that has no more scores, or no lot, is behind one that has.
        private static final int NO_MORE = 1000000;
        private final Boats boats;
        private final Races races;
        private final PointTable pointTable;
        private final ScoreTable scoreTable;
        private final int[] rows = new int[MAX_BOATS * COLUMNS];
        private final int[] boatsInOrder = new int[MAX_BOATS];
        private final int[] ranks = new int[MAX_BOATS];

        Ranking(Boats boats, Races races, PointTable pointTable, ScoreTable scoreTable) {
            this.boats = boats;
            this.races = races;
            this.pointTable = pointTable;
            this.scoreTable = scoreTable;
        }

        void calculate() {
            Arrays.fill(rows, NO_MORE);
            for (int boat = 0; boat < boats.size; boat++) {
                fillRow(boat);
                insertInOrder(boat);
            }
            for (int index = 0; index < boats.size; index++) {
                ranks[boatsInOrder[index]] = index + 1;
            }
        }

        int rankOfBoat(int boat) {
            return ranks[boat];
        }

        int boatOfRank(int rank) {
            return boatsInOrder[rank - 1];
        }

        int partingStep(int a, int b) {
            int column = firstDifference(a, b);
            if (column < KEPT_COLUMN) {
                return 0;
            }
            if (column < SERIES_COLUMN) {
                return 1;
            }
            if (column < LOT_COLUMN) {
                return 2;
            }
            return column == LOT_COLUMN ? 3 : 4;
        }

        private void fillRow(int boat) {
            int row = boat * COLUMNS;
            rows[row + FLEET_COLUMN] = boats.fleets[boat];
            rows[row + NET_COLUMN] = scoreTable.nets[boat];
            rows[row + LOT_COLUMN] = boats.lots[boat] == 0 ? NO_MORE : boats.lots[boat];
            rows[row + NUMBER_COLUMN] = boat;
            int kept = 0;
            int inSeries = 0;
            for (int race = races.size - 1; race >= 0; race--) {
                int cell = cell(race, boat);
                if (pointTable.inSeries[cell]) {
                    rows[row + SERIES_COLUMN + inSeries] = scoreTable.scores[cell];
                    inSeries++;
                    if (!scoreTable.discarded[cell]) {
                        insertKept(row + KEPT_COLUMN, kept, scoreTable.scores[cell]);
                        kept++;
                    }
                }
            }
        }

        private void insertKept(int first, int kept, int score) {
            int index = first + kept;
            while (index > first && rows[index - 1] > score) {
                rows[index] = rows[index - 1];
                index--;
            }
            rows[index] = score;
        }

        private void insertInOrder(int boat) {
            int index = boat;
            while (index > 0 && isBefore(boat, boatsInOrder[index - 1])) {
                boatsInOrder[index] = boatsInOrder[index - 1];
                index--;
            }
            boatsInOrder[index] = boat;
        }

        private boolean isBefore(int a, int b) {
            int column = firstDifference(a, b);
            return rows[a * COLUMNS + column] < rows[b * COLUMNS + column];
        }

        private int firstDifference(int a, int b) {
            int column = 0;
            while (column < NUMBER_COLUMN && rows[a * COLUMNS + column] == rows[b * COLUMNS + column]) {
                column++;
            }
            return column;
        }
    }

    /** The bytes of the sheet that was written latest. */
    private static final class Sheet {
        // "40. 39 31996.8 (31996.8)", 16 times " [999.9RDG]" and the end of the line.
        private static final int LONGEST_LINE = 24 + 16 * 11 + 1;
        private static final int GREATEST_DIVISOR = 10000;
        final byte[] bytes = new byte[MAX_BOATS * LONGEST_LINE];
        int length;

        void restart() {
            length = 0;
        }

        void putText(String text) {
            for (int index = 0; index < text.length(); index++) {
                putByte(text.charAt(index));
            }
        }

        void putNumber(int number) {
            for (int divisor = GREATEST_DIVISOR; divisor > 0; divisor /= 10) {
                if (number >= divisor || divisor == 1) {
                    putByte('0' + number / divisor % 10);
                }
            }
        }

        void putTenths(int tenths) {
            putNumber(tenths / 10);
            putByte('.');
            putByte('0' + tenths % 10);
        }

        private void putByte(int value) {
            if (length < bytes.length) {
                bytes[length] = (byte) value;
                length++;
            }
        }
    }
}
