import java.util.function.Function;

/**
 * "Arguments are any ints": each call with all its arguments at once near the edges and far off, in objects that are
 * empty, sailed, split and full, compared with Model: the answer, or the exception, and behind it the sheet's length.
 */
final class ExtremesTest {
    private interface Build {
        void on(Pair pair);
    }

    /** An object and the model, with the same calls. */
    private static final class Pair {
        final RegattaOffice office = new RegattaOffice();
        final Model model = new Model();
        int calls = 0;

        Object both(Function<RegattaOffice, Object> officeCall, Function<Model, Object> modelCall) {
            calls++;
            String answer = State.answerOf(() -> officeCall.apply(office));
            String due = State.answerOf(() -> modelCall.apply(model));
            return answer.equals(due) ? null : "answered " + answer + ", due is " + due;
        }
    }

    private static final int[] INDEXES = {Integer.MIN_VALUE, -1, 0, 1, 2, 5, 6, 7, 39, 40, 41, Integer.MAX_VALUE};
    private static final int[] RACES = {Integer.MIN_VALUE, -1, 0, 1, 2, 15, 16, Integer.MAX_VALUE};
    private static final int[] BOATS = {Integer.MIN_VALUE, -1, 0, 5, 6, 39, 40, Integer.MAX_VALUE};
    private static final int[] CODES = {Integer.MIN_VALUE, -1, 0, 1, 4, 5, 6, 7, 8, 9, 256, Integer.MAX_VALUE};
    private static final int[] NUMBERS = {Integer.MIN_VALUE, Integer.MIN_VALUE + 1, -256, -1, 0, 1, 2, 3, 4, 15, 16,
            17, 99, 100, 101, 256, 999, 1000, 9999, 10000, 65536, 1 << 30, Integer.MAX_VALUE};

    private static final Build FULL = ExtremesTest::fill;

    private final Build build;
    private Pair pair;

    private ExtremesTest(Build build) {
        this.build = build;
        renew();
    }

    static void run() {
        Build[] builds = {pair -> { }, ExtremesTest::sail, ExtremesTest::divide, FULL};
        for (Build build : builds) {
            ExtremesTest test = new ExtremesTest(build);
            test.callsWithOneNumber();
            test.callsWithTwoNumbers();
            test.callsWithThreeNumbers();
            test.callsWithFourNumbers();
        }
    }

    private static void sail(Pair pair) {
        for (int boat = 0; boat < 6; boat++) {
            pair.both(RegattaOffice::boat, Model::boat);
        }
        for (int race = 0; race < 2; race++) {
            pair.both(office -> office.race(0, 0), model -> model.race(0, 0));
        }
        for (int boat = 0; boat < 5; boat++) {
            int each = boat;
            pair.both(office -> State.done(() -> office.finish(0, each, 1 + each / 2)),
                    model -> State.done(() -> model.finish(0, each, 1 + each / 2)));
        }
        pair.both(office -> office.protest(0, 1, 4, 0), model -> model.protest(0, 1, 4, 0));
        pair.both(office -> State.done(() -> office.discards(1, 1)), model -> State.done(() -> model.discards(1, 1)));
    }

    private static void divide(Pair pair) {
        sail(pair);
        pair.both(office -> office.split(2, 3), model -> model.split(2, 3));
        pair.both(office -> office.race(1, 1), model -> model.race(1, 1));
    }

    private static void fill(Pair pair) {
        for (int boat = 0; boat < 40; boat++) {
            pair.both(RegattaOffice::boat, Model::boat);
        }
        for (int race = 0; race < 16; race++) {
            pair.both(office -> office.race(0, 0), model -> model.race(0, 0));
        }
        for (int number = 0; number < 40; number++) {
            int decision = number;
            pair.both(office -> office.protest(15, decision, 8, 99 - decision),
                    model -> model.protest(15, decision, 8, 99 - decision));
        }
        for (int number = 1; number <= 6; number++) {
            int step = number;
            pair.both(office -> State.done(() -> office.discards(step, step)),
                    model -> State.done(() -> model.discards(step, step)));
        }
    }

    private void renew() {
        pair = new Pair();
        build.on(pair);
    }

    private void compare(String call, Function<RegattaOffice, Object> office, Function<Model, Object> model) {
        if (pair.calls > 480) {
            renew();
        }
        Object difference = pair.both(office, model);
        if (difference == null) {
            difference = askBehind();
        }
        Check.equal("extremes: " + call, String.valueOf(difference), "null");
    }

    /** Model is too slow to write the sheet of 40 boats so often. */
    private Object askBehind() {
        if (build == FULL) {
            return pair.both(office -> office.net(39), model -> model.net(39));
        }
        return pair.both(RegattaOffice::sheet, Model::sheet);
    }

    private void callsWithOneNumber() {
        renew();
        for (int a : INDEXES) {
            compare("reopen(" + a + ")", office -> State.done(() -> office.reopen(a)),
                    model -> State.done(() -> model.reopen(a)));
            compare("net(" + a + ")", office -> office.net(a), model -> model.net(a));
            compare("gross(" + a + ")", office -> office.gross(a), model -> model.gross(a));
            compare("mean(" + a + ")", office -> office.mean(a), model -> model.mean(a));
            compare("rank(" + a + ")", office -> office.rank(a), model -> model.rank(a));
            compare("at(" + a + ")", office -> office.at(a), model -> model.at(a));
            compare("sheetByte(" + a + ")", office -> office.sheetByte(a), model -> model.sheetByte(a));
            compare("abandon(" + a + ")", office -> office.abandon(a, a % 2 == 0),
                    model -> model.abandon(a, a % 2 == 0));
        }
        compare("boat()", RegattaOffice::boat, Model::boat);
    }

    private void callsWithTwoNumbers() {
        for (int a : NUMBERS) {
            for (int b : NUMBERS) {
                renew();
                String numbers = "(" + a + ", " + b + ")";
                compare("race" + numbers, office -> office.race(a, b), model -> model.race(a, b));
                compare("discards" + numbers, office -> State.done(() -> office.discards(a, b)),
                        model -> State.done(() -> model.discards(a, b)));
                compare("split" + numbers, office -> office.split(a, b), model -> model.split(a, b));
            }
        }
        for (int a : INDEXES) {
            for (int b : INDEXES) {
                String numbers = "(" + a + ", " + b + ")";
                compare("clear" + numbers, office -> office.clear(a, b), model -> model.clear(a, b));
                compare("points" + numbers, office -> office.points(a, b), model -> model.points(a, b));
                compare("isDiscard" + numbers, office -> office.isDiscard(a, b), model -> model.isDiscard(a, b));
                compare("tie" + numbers, office -> office.tie(a, b), model -> model.tie(a, b));
                compare("told" + numbers, office -> office.told(a, b), model -> model.told(a, b));
            }
            for (int b : NUMBERS) {
                String numbers = "(" + a + ", " + b + ")";
                compare("lot" + numbers, office -> office.lot(a, b), model -> model.lot(a, b));
                compare("missing" + numbers, office -> office.missing(a, b), model -> model.missing(a, b));
            }
        }
    }

    private void callsWithThreeNumbers() {
        renew();
        for (int race : RACES) {
            for (int boat : BOATS) {
                for (int number : NUMBERS) {
                    String numbers = "(" + race + ", " + boat + ", " + number + ")";
                    compare("finish" + numbers, office -> State.done(() -> office.finish(race, boat, number)),
                            model -> State.done(() -> model.finish(race, boat, number)));
                    compare("penalty" + numbers, office -> State.done(() -> office.penalty(race, boat, number)),
                            model -> State.done(() -> model.penalty(race, boat, number)));
                }
            }
        }
    }

    private void callsWithFourNumbers() {
        renew();
        int[] numbers = {Integer.MIN_VALUE, -1, 0, 1, 99, 100, 9999, 10000, Integer.MAX_VALUE};
        for (int race : new int[] {-1, 0, 2, 15, 16, Integer.MAX_VALUE}) {
            for (int boat : new int[] {Integer.MIN_VALUE, 0, 5, 6, 39, 40}) {
                for (int code : CODES) {
                    for (int number : numbers) {
                        callsOnAnEntry(race, boat, code, number);
                    }
                }
            }
        }
    }

    private void callsOnAnEntry(int race, int boat, int code, int number) {
        String numbers = "(" + race + ", " + boat + ", " + code + ", " + number + ")";
        compare("code" + numbers, office -> State.done(() -> office.code(race, boat, code, number)),
                model -> State.done(() -> model.code(race, boat, code, number)));
        compare("what" + numbers, office -> office.what(race, boat, code, number),
                model -> model.what(race, boat, code, number));
        compare("protest" + numbers, office -> office.protest(race, boat, code, number),
                model -> model.protest(race, boat, code, number));
    }
}
