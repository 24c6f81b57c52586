import java.util.Random;
import java.util.function.Supplier;

/**
 * Promises 1 to 26 in long runs of calls, each answer compared with Model's. The runs are the same each time, and each
 * object has the 512 calls that are promised, no more.
 */
final class ModelTest {
    private static final int RUNS = 900;
    private static final int CALLS = 512;
    private static final int[] FAR_OFF = {Integer.MIN_VALUE, -2, -1, 0, 1, 7, 16, 40, 100, 1000, 10000,
            Integer.MAX_VALUE};

    private final Random random;
    private final RegattaOffice office = new RegattaOffice();
    private final Model model = new Model();
    private final int boats;
    private final int races;
    private final int splitAt;
    private final boolean isCareless;
    private final boolean isQuarrelsome;
    private int entered = 0;
    private int made = 0;
    private boolean isSplit = false;
    private boolean splitWasTried = false;
    private int calls = 0;

    private ModelTest(int seed) {
        random = new Random(seed);
        boats = seed % 8 == 0 ? 41 : 1 + random.nextInt(7);
        races = seed % 7 == 0 ? 17 : 1 + random.nextInt(8);
        splitAt = random.nextInt(3) == 0 ? CALLS : 60 + random.nextInt(300);
        isCareless = random.nextInt(4) == 0;
        isQuarrelsome = random.nextInt(6) == 0;
    }

    static void run() {
        for (int seed = 1; seed <= RUNS; seed++) {
            Check.equal("run " + seed, new ModelTest(seed).firstDifference(), "all calls as the model");
        }
    }

    private String firstDifference() {
        // One turn may take six calls, and sheet() one more.
        int leftForTheSheet = 7 + random.nextInt(200);
        while (calls < CALLS - leftForTheSheet) {
            String difference = nextCall();
            if (difference != null) {
                return "call " + calls + ": " + difference;
            }
        }
        String difference = sheet(0, CALLS - calls - 1);
        return difference == null ? "all calls as the model" : "the last sheet: " + difference;
    }

    private String nextCall() {
        if (calls < boats) {
            return boat();
        }
        if (calls >= splitAt && !splitWasTried) {
            splitWasTried = true;
            return split();
        }
        return anyCall();
    }

    private String anyCall() {
        int kind = random.nextInt(100);
        if (isQuarrelsome && random.nextInt(4) == 0) {
            return decide(34);
        }
        if (kind < 3) {
            return random.nextInt(isCareless ? 2 : 40) == 0 ? boat() : told();
        }
        if (kind < 8 || made == 0) {
            return made < races || random.nextInt(10) == 0 ? race() : sheetByte();
        }
        if (kind < 34) {
            return putIn(kind);
        }
        if (kind < 45) {
            return decide(kind);
        }
        return kind < 52 ? rule(kind) : ask(kind);
    }

    private String putIn(int kind) {
        int race = someRace();
        int boat = someBoat();
        if (kind < 24) {
            int place = number(1, random.nextInt(5) == 0 ? 99 : 6);
            return compare("finish(" + race + ", " + boat + ", " + place + ")",
                    () -> State.done(() -> office.finish(race, boat, place)),
                    () -> State.done(() -> model.finish(race, boat, place)));
        }
        if (kind < 28) {
            int code = number(1, 8);
            int argument = argumentOf(code);
            return compare("code(" + race + ", " + boat + ", " + code + ", " + argument + ")",
                    () -> State.done(() -> office.code(race, boat, code, argument)),
                    () -> State.done(() -> model.code(race, boat, code, argument)));
        }
        if (kind < 32) {
            int percent = number(0, 100);
            return compare("penalty(" + race + ", " + boat + ", " + percent + ")",
                    () -> State.done(() -> office.penalty(race, boat, percent)),
                    () -> State.done(() -> model.penalty(race, boat, percent)));
        }
        return compare("clear(" + race + ", " + boat + ")",
                () -> office.clear(race, boat), () -> model.clear(race, boat));
    }

    private String decide(int kind) {
        int race = someRace();
        int boat = someBoat();
        int code = number(0, 8);
        int argument = argumentOf(code);
        int decision = number(0, 20);
        String arguments = "(" + race + ", " + boat + ", " + code + ", " + argument + ")";
        if (kind < 38) {
            return compare("protest" + arguments,
                    () -> office.protest(race, boat, code, argument), () -> model.protest(race, boat, code, argument));
        }
        if (kind < 42) {
            return compare("what" + arguments,
                    () -> office.what(race, boat, code, argument), () -> model.what(race, boat, code, argument));
        }
        return compare("reopen(" + decision + ")",
                () -> State.done(() -> office.reopen(decision)), () -> State.done(() -> model.reopen(decision)));
    }

    private String rule(int kind) {
        int boat = someBoat();
        if (kind < 47) {
            int lot = number(0, random.nextBoolean() ? 3 : 999);
            return compare("lot(" + boat + ", " + lot + ")", () -> office.lot(boat, lot), () -> model.lot(boat, lot));
        }
        if (kind < 50) {
            int race = someRace();
            boolean on = random.nextInt(3) == 0;
            return compare("abandon(" + race + ", " + on + ")",
                    () -> office.abandon(race, on), () -> model.abandon(race, on));
        }
        if (isCareless && random.nextInt(4) == 0) {
            return split();
        }
        int from = number(1, random.nextBoolean() ? 5 : 16);
        int n = number(1, random.nextBoolean() ? 3 : 15);
        return compare("discards(" + from + ", " + n + ")",
                () -> State.done(() -> office.discards(from, n)), () -> State.done(() -> model.discards(from, n)));
    }

    private String ask(int kind) {
        int boat = someBoat();
        if (kind < 58) {
            int race = someRace();
            return compare("points(" + race + ", " + boat + ")",
                    () -> office.points(race, boat), () -> model.points(race, boat));
        }
        if (kind < 62) {
            int race = someRace();
            return compare("isDiscard(" + race + ", " + boat + ")",
                    () -> office.isDiscard(race, boat), () -> model.isDiscard(race, boat));
        }
        if (kind < 66) {
            return compare("net(" + boat + ")", () -> office.net(boat), () -> model.net(boat));
        }
        if (kind < 69) {
            return compare("gross(" + boat + ")", () -> office.gross(boat), () -> model.gross(boat));
        }
        if (kind < 72) {
            return compare("mean(" + boat + ")", () -> office.mean(boat), () -> model.mean(boat));
        }
        if (kind < 76) {
            return compare("rank(" + boat + ")", () -> office.rank(boat), () -> model.rank(boat));
        }
        if (kind < 88) {
            return askForTwo(kind, boat);
        }
        if (kind < 91) {
            return told();
        }
        return kind < 96 ? sheet(random.nextInt(80), 5) : sheetByte();
    }

    private String askForTwo(int kind, int boat) {
        if (kind < 79) {
            int rank = number(1, Math.max(1, entered));
            return compare("at(" + rank + ")", () -> office.at(rank), () -> model.at(rank));
        }
        if (kind < 84) {
            int other = someBoat();
            return compare("tie(" + boat + ", " + other + ")",
                    () -> office.tie(boat, other), () -> model.tie(boat, other));
        }
        int race = someRace();
        int k = number(0, 4);
        return compare("missing(" + race + ", " + k + ")", () -> office.missing(race, k), () -> model.missing(race, k));
    }

    private String boat() {
        entered += !isSplit && entered < 40 ? 1 : 0;
        return compare("boat()", office::boat, model::boat);
    }

    private String race() {
        int kind = isSplit ? number(1, 2) : 2 * number(0, 1);
        int fleet = isSplit ? number(1, 3) : number(0, random.nextInt(8) == 0 ? 3 : 0);
        boolean isRight = isSplit ? kind >= 1 && kind <= 2 && fleet >= 1 && fleet <= 3
                : (kind == 0 || kind == 2) && fleet == 0;
        made += isRight && made < 16 ? 1 : 0;
        return compare("race(" + kind + ", " + fleet + ")",
                () -> office.race(kind, fleet), () -> model.race(kind, fleet));
    }

    private String split() {
        int gold = number(1, 1 + entered / 2);
        int silver = number(1, 1 + entered / 3);
        String difference = compare("split(" + gold + ", " + silver + ")",
                () -> office.split(gold, silver), () -> model.split(gold, silver));
        isSplit = entered > 0 && model.told(0, 0) != 0;
        return difference;
    }

    private String told() {
        int boat = someBoat();
        int what = number(0, 3);
        return compare("told(" + boat + ", " + what + ")", () -> office.told(boat, what), () -> model.told(boat, what));
    }

    private String sheetByte() {
        int i = number(0, 150);
        return compare("sheetByte(" + i + ")", () -> office.sheetByte(i), () -> model.sheetByte(i));
    }

    /** So many bytes of a new sheet, or as many as it has. */
    private String sheet(int first, int bytes) {
        String difference = compare("sheet()", office::sheet, model::sheet);
        for (int i = first; i < first + bytes && difference == null; i++) {
            int index = i;
            difference = compare("sheetByte(" + i + ")", () -> office.sheetByte(index), () -> model.sheetByte(index));
        }
        return difference;
    }

    private int someRace() {
        return number(0, Math.max(0, made - 1));
    }

    private int someBoat() {
        return number(0, Math.max(0, entered - 1));
    }

    private int argumentOf(int code) {
        if (code == 0) {
            return number(1, 6);
        }
        return code == 8 ? number(0, random.nextInt(4) == 0 ? 9999 : 60) : random.nextInt(12) == 0 ? number(-1, 1) : 0;
    }

    /** A number from the first to the last one; now and then one that is just or far off. */
    private int number(int first, int last) {
        int luck = random.nextInt(80);
        if (luck == 0) {
            return FAR_OFF[random.nextInt(FAR_OFF.length)];
        }
        return luck == 1 ? last + 1 : luck == 2 ? first - 1 : first + random.nextInt(last - first + 1);
    }

    private String compare(String call, Supplier<Object> office, Supplier<Object> model) {
        calls++;
        String answer = State.answerOf(office);
        String due = State.answerOf(model);
        return answer.equals(due) ? null : call + " answered " + answer + ", due is " + due;
    }
}
