import java.util.function.Supplier;

/**
 * What an object answers, gathered as one text, so that two objects can be compared as a whole. An object is promised
 * for 512 calls only: so much is asked that 100 of them are left for what came before.
 */
final class State {
    private static final int MOST_CALLS = 412;
    private static final int MOST_BYTES = 200;

    private final RegattaOffice office;
    private final int boats;
    private final int races;
    private final StringBuilder text = new StringBuilder();
    private int calls = 0;

    private State(RegattaOffice office, int boats, int races) {
        this.office = office;
        this.boats = boats;
        this.races = races;
    }

    /** All questions, but sheet(), which changes the bytes: about so many boats and races, and one behind them. */
    static String answers(RegattaOffice office, int boats, int races) {
        State state = new State(office, boats, races);
        state.askAboutBoats();
        state.askAboutRaces();
        state.askForOrder();
        state.readBytes();
        return state.wholeText();
    }

    /** What no question tells is told by changes: the object is used up behind them. */
    static String kept(RegattaOffice office, int boats, int races) {
        State state = new State(office, boats, races);
        state.reopenAll();
        state.clearAll();
        state.tellSteps();
        state.tellBoats();
        return state.wholeText();
    }

    static String answerOf(Supplier<Object> call) {
        try {
            return String.valueOf(call.get());
        } catch (RuntimeException e) {
            return "throws." + e.getClass().getSimpleName();
        }
    }

    static Object done(Runnable call) {
        call.run();
        return "done";
    }

    private String wholeText() {
        Check.equal("calls of one object: " + calls, calls <= MOST_CALLS, true);
        return text.toString();
    }

    private String ask(String name, Supplier<Object> call) {
        calls++;
        String answer = answerOf(call);
        text.append(name).append(' ').append(answer).append('\n');
        return answer;
    }

    private void askAboutBoats() {
        for (int number = 0; number < boats; number++) {
            int boat = number;
            ask("net " + boat, () -> office.net(boat));
            ask("gross " + boat, () -> office.gross(boat));
            ask("mean " + boat, () -> office.mean(boat));
            for (int what = 0; what <= 3; what++) {
                int such = what;
                ask("told " + boat + " " + what, () -> office.told(boat, such));
            }
        }
        ask("no boat", () -> office.told(boats, 0));
    }

    private void askAboutRaces() {
        for (int number = 0; number < races; number++) {
            int race = number;
            for (int other = 0; other < boats; other++) {
                int boat = other;
                ask("points " + race + " " + boat, () -> office.points(race, boat));
                ask("isDiscard " + race + " " + boat, () -> office.isDiscard(race, boat));
            }
            String answer = "0";
            for (int k = 0; k < boats && !answer.equals("-1"); k++) {
                int such = k;
                answer = ask("missing " + race + " " + k, () -> office.missing(race, such));
            }
        }
        ask("no race", () -> office.missing(races, 0));
    }

    private void askForOrder() {
        for (int number = 1; number <= boats + 1; number++) {
            int rank = number;
            ask("at " + rank, () -> office.at(rank));
        }
        for (int number = 0; number + 1 < boats; number++) {
            int boat = number;
            ask("rank " + boat, () -> office.rank(boat));
            ask("tie " + boat, () -> office.tie(boat, boat + 1));
        }
    }

    private void readBytes() {
        String answer = "";
        for (int i = 0; i < MOST_BYTES && !answer.startsWith("throws."); i++) {
            int index = i;
            answer = ask("sheetByte " + i, () -> office.sheetByte(index));
        }
    }

    private void reopenAll() {
        for (int number = 41; number >= 0; number--) {
            int decision = number;
            String answer = ask("reopen " + decision, () -> done(() -> office.reopen(decision)));
            if (answer.equals("done")) {
                for (int other = 0; other < boats; other++) {
                    int boat = other;
                    ask("net " + boat, () -> office.net(boat));
                }
            }
        }
        ask("protest", () -> office.protest(0, 0, Make.DNS, 0));
    }

    private void clearAll() {
        for (int number = 0; number < races; number++) {
            int race = number;
            ask("abandon " + race, () -> office.abandon(race, false));
            for (int other = 0; other < boats; other++) {
                int boat = other;
                ask("clear " + race + " " + boat, () -> office.clear(race, boat));
            }
        }
    }

    /** One race more and one more, until all are there: what is left out then tells all the steps. */
    private void tellSteps() {
        int fleet = office.told(0, 0);
        for (int number = races; number <= 16; number++) {
            int race = number;
            ask("race " + race, () -> office.race(fleet == Make.ALL ? Make.QUALIFYING : Make.FINAL, fleet));
            ask("finish " + race, () -> done(() -> office.finish(race, 0, 1)));
            ask("discarded of " + race, () -> office.told(0, 3));
        }
        for (int number = 1; number <= 15; number++) {
            int n = number;
            ask("discards 16 " + n, () -> done(() -> office.discards(16, n)));
        }
    }

    private void tellBoats() {
        for (int number = 0; number < boats; number++) {
            int boat = number;
            ask("lot " + boat, () -> office.lot(boat, 0));
        }
        ask("boat", office::boat);
        ask("split", () -> office.split(1, 1));
        ask("sheet", office::sheet);
    }
}
