import java.util.ArrayList;
import java.util.Comparator;
import java.util.HashMap;
import java.util.List;
import java.util.Map;

/**
 * A second writing of the document, as plain as can be: nothing is kept but what was said, and every answer is
 * worked out anew from it. It shares no code with RegattaOffice, so that a slip would have to be made twice.
 */
final class Model {
    private record Entry(int code, int argument, int percent) {
        boolean isRedress() {
            return code >= 6;
        }
    }

    private record Decision(int race, int boat, Entry entry) {
    }

    private record Race(int kind, int fleet) {
    }

    private record At(int race, int boat) {
    }

    private final List<Integer> lots = new ArrayList<>();
    private final List<Integer> fleets = new ArrayList<>();
    private final List<Race> races = new ArrayList<>();
    private final List<Boolean> abandoned = new ArrayList<>();
    private final Map<At, Entry> putIn = new HashMap<>();
    private final List<Decision> decisions = new ArrayList<>();
    private final List<Integer> reopened = new ArrayList<>();
    private final List<int[]> steps = new ArrayList<>();
    private boolean isSplit = false;
    private String sheet = "";

    int boat() {
        if (isSplit) {
            throw new IllegalStateException();
        }
        if (lots.size() == 40) {
            throw new UnsupportedOperationException();
        }
        lots.add(0);
        fleets.add(0);
        return lots.size() - 1;
    }

    int race(int kind, int fleet) {
        if (kind < 0 || kind > 2 || fleet < 0 || fleet > 3) {
            throw new IllegalArgumentException();
        }
        if (isSplit ? kind == 0 || fleet == 0 : kind == 1 || fleet != 0) {
            throw new IllegalStateException();
        }
        if (races.size() == 16) {
            throw new UnsupportedOperationException();
        }
        races.add(new Race(kind, fleet));
        abandoned.add(false);
        return races.size() - 1;
    }

    boolean abandon(int race, boolean on) {
        return abandoned.set(index(race, races), on);
    }

    void finish(int race, int boat, int place) {
        check(race, boat, place >= 1 && place <= 99);
        putIn.put(new At(race, boat), new Entry(0, place, 0));
    }

    void code(int race, int boat, int code, int argument) {
        check(race, boat, code != 0 && isEntry(code, argument));
        putIn.put(new At(race, boat), new Entry(code, argument, 0));
    }

    void penalty(int race, int boat, int percent) {
        Entry old = putIn.get(new At(index(race, races), index(boat, lots)));
        if (old == null || old.code != 0) {
            throw new IllegalStateException();
        }
        if (percent < 0 || percent > 100) {
            throw new IllegalArgumentException();
        }
        putIn.put(new At(race, boat), new Entry(0, old.argument, percent));
    }

    boolean clear(int race, int boat) {
        return putIn.remove(new At(index(race, races), index(boat, lots))) != null;
    }

    int protest(int race, int boat, int code, int argument) {
        check(race, boat, isEntry(code, argument));
        if (decisions.size() == 40) {
            throw new UnsupportedOperationException();
        }
        decisions.add(new Decision(race, boat, new Entry(code, argument, 0)));
        return decisions.size() - 1;
    }

    void reopen(int decision) {
        index(decision, decisions);
        if (reopened.contains(decision)) {
            throw new IllegalStateException();
        }
        reopened.add(decision);
    }

    void discards(int raceCount, int n) {
        int[] latest = steps.isEmpty() ? new int[2] : steps.get(steps.size() - 1);
        if (raceCount <= latest[0] || raceCount > 16 || n <= latest[1] || n > 15) {
            throw new IllegalArgumentException();
        }
        if (steps.size() == 6) {
            throw new UnsupportedOperationException();
        }
        steps.add(new int[] {raceCount, n});
    }

    int lot(int boat, int lot) {
        index(boat, lots);
        if (lot < 0 || lot > 999) {
            throw new IllegalArgumentException();
        }
        return lots.set(boat, lot);
    }

    int split(int gold, int silver) {
        boolean anySailed = false;
        for (int race = 0; race < races.size(); race++) {
            anySailed |= isSailed(race);
        }
        if (isSplit || !anySailed) {
            throw new IllegalStateException();
        }
        if (gold < 1 || silver < 1 || (long) gold + silver > lots.size()) {
            throw new IllegalArgumentException();
        }
        List<Integer> order = order();
        for (int i = 0; i < order.size(); i++) {
            fleets.set(order.get(i), i < gold ? 1 : i < gold + silver ? 2 : 3);
        }
        isSplit = true;
        return order.size() - gold - silver;
    }

    int points(int race, int boat) {
        index(race, races);
        index(boat, lots);
        return series(boat).contains(race) ? pointsInSeries(race, boat) : -1;
    }

    boolean isDiscard(int race, int boat) {
        index(race, races);
        index(boat, lots);
        return discarded(boat).contains(race);
    }

    int net(int boat) {
        index(boat, lots);
        return gross(boat) - discarded(boat).stream().mapToInt(race -> score(race, boat)).sum();
    }

    int gross(int boat) {
        index(boat, lots);
        return series(boat).stream().mapToInt(race -> score(race, boat)).sum();
    }

    double mean(int boat) {
        index(boat, lots);
        return series(boat).isEmpty() ? 0.0 : gross(boat) / (10.0 * series(boat).size());
    }

    int rank(int boat) {
        index(boat, lots);
        return order().indexOf(boat) + 1;
    }

    int at(int rank) {
        return order().get(index(rank == Integer.MIN_VALUE ? -1 : rank - 1, lots));
    }

    int tie(int a, int b) {
        index(a, lots);
        index(b, lots);
        if (a == b) {
            throw new IllegalArgumentException();
        }
        if (!fleets.get(a).equals(fleets.get(b)) || net(a) != net(b)) {
            return 0;
        }
        if (!kept(a).equals(kept(b))) {
            return 1;
        }
        if (!fromLast(a).equals(fromLast(b))) {
            return 2;
        }
        return lots.get(a).equals(lots.get(b)) ? 4 : 3;
    }

    int what(int race, int boat, int code, int argument) {
        check(race, boat, isEntry(code, argument));
        decisions.add(new Decision(race, boat, new Entry(code, argument, 0)));
        int net = net(boat);
        decisions.remove(decisions.size() - 1);
        return net;
    }

    int missing(int race, int k) {
        index(race, races);
        List<Integer> found = new ArrayList<>();
        for (int boat = 0; boat < lots.size(); boat++) {
            if (isOf(race, boat) && counting(race, boat) == null) {
                found.add(boat);
            }
        }
        return k >= 0 && k < found.size() ? found.get(k) : -1;
    }

    int told(int boat, int what) {
        index(boat, lots);
        return switch (what) {
            case 0 -> fleets.get(boat);
            case 1 -> lots.get(boat);
            case 2 -> series(boat).size();
            case 3 -> discarded(boat).size();
            default -> throw new IllegalArgumentException();
        };
    }

    int sheet() {
        StringBuilder text = new StringBuilder();
        List<Integer> order = order();
        for (int boat : order) {
            text.append(order.indexOf(boat) + 1).append(". ").append(boat).append(' ');
            text.append(tenths(net(boat))).append(" (").append(tenths(gross(boat))).append(')');
            List<Integer> out = discarded(boat);
            for (int race : series(boat)) {
                String score = tenths(score(race, boat)) + name(counting(race, boat));
                text.append(' ').append(out.contains(race) ? "[" + score + "]" : score);
            }
            text.append('\n');
        }
        sheet = text.toString();
        return sheet.length();
    }

    int sheetByte(int i) {
        if (i < 0 || i >= sheet.length()) {
            throw new IndexOutOfBoundsException();
        }
        return sheet.charAt(i);
    }

    private static int index(int i, List<?> list) {
        if (i < 0 || i >= list.size()) {
            throw new IndexOutOfBoundsException();
        }
        return i;
    }

    private void check(int race, int boat, boolean isRight) {
        index(race, races);
        index(boat, lots);
        if (!isOf(race, boat)) {
            throw new IllegalStateException();
        }
        if (!isRight) {
            throw new IllegalArgumentException();
        }
    }

    private static boolean isEntry(int code, int argument) {
        return switch (code) {
            case 0 -> argument >= 1 && argument <= 99;
            case 1, 2, 3, 4, 5, 6, 7 -> argument == 0;
            case 8 -> argument >= 0 && argument <= 9999;
            default -> false;
        };
    }

    private boolean isOf(int race, int boat) {
        int fleet = races.get(race).fleet;
        return fleet == 0 || fleet == fleets.get(boat);
    }

    private int sizeOf(int race) {
        int size = 0;
        for (int boat = 0; boat < lots.size(); boat++) {
            size += isOf(race, boat) ? 1 : 0;
        }
        return size;
    }

    private Entry counting(int race, int boat) {
        for (int decision = decisions.size() - 1; decision >= 0; decision--) {
            Decision d = decisions.get(decision);
            if (d.race == race && d.boat == boat && !reopened.contains(decision)) {
                return d.entry;
            }
        }
        return putIn.get(new At(race, boat));
    }

    private boolean isSailed(int race) {
        for (int boat = 0; boat < lots.size(); boat++) {
            if (counting(race, boat) != null) {
                return !abandoned.get(race);
            }
        }
        return false;
    }

    private List<Integer> series(int boat) {
        List<Integer> series = new ArrayList<>();
        for (int race = 0; race < races.size(); race++) {
            if (isOf(race, boat) && isSailed(race)) {
                series.add(race);
            }
        }
        return series;
    }

    private int pointsInSeries(int race, int boat) {
        Entry entry = counting(race, boat);
        int n = sizeOf(race);
        if (entry == null || entry.code >= 1 && entry.code <= 5) {
            return 10 * n + 10;
        }
        return switch (entry.code) {
            case 0 -> pointsOfPlace(race, entry, n);
            case 8 -> entry.argument;
            default -> average(race, boat, entry.code == 7, n);
        };
    }

    private int pointsOfPlace(int race, Entry entry, int n) {
        int r = 1;
        int k = 0;
        for (int other = 0; other < lots.size(); other++) {
            Entry theirs = counting(race, other);
            if (theirs != null && theirs.code == 0) {
                r += theirs.argument < entry.argument ? 1 : 0;
                k += theirs.argument == entry.argument ? 1 : 0;
            }
        }
        int points = 10 * r + 5 * (k - 1);
        return entry.percent == 0 ? points : Math.min(points + roundHalfUp(n * entry.percent, 10), 10 * n + 10);
    }

    private int average(int race, int boat, boolean isBefore, int n) {
        int sum = 0;
        int count = 0;
        for (int other : series(boat)) {
            Entry entry = counting(other, boat);
            boolean isRedress = entry != null && entry.isRedress();
            if (other != race && !isRedress && (!isBefore || other < race)) {
                sum += pointsInSeries(other, boat);
                count++;
            }
        }
        return count == 0 ? 5 * n : roundHalfUp(sum, count);
    }

    private static int roundHalfUp(int number, int divisor) {
        return number / divisor + (2 * (number % divisor) >= divisor ? 1 : 0);
    }

    private int score(int race, int boat) {
        return pointsInSeries(race, boat) * (races.get(race).kind == 2 ? 2 : 1);
    }

    private List<Integer> discarded(int boat) {
        List<Integer> can = new ArrayList<>();
        for (int race : series(boat)) {
            Entry entry = counting(race, boat);
            if (races.get(race).kind != 2 && (entry == null || entry.code != 5)) {
                can.add(race);
            }
        }
        Map<Integer, Integer> scores = new HashMap<>();
        for (int race : can) {
            scores.put(race, score(race, boat));
        }
        // The sort is stable, so that the earlier of equal ones stays first.
        can.sort(Comparator.comparing(race -> -scores.get(race)));
        return can.subList(0, Math.min(allowed(boat), can.size()));
    }

    private int allowed(int boat) {
        int allowed = 0;
        for (int[] step : steps) {
            allowed = step[0] <= series(boat).size() ? step[1] : allowed;
        }
        return allowed;
    }

    private List<Integer> kept(int boat) {
        List<Integer> out = discarded(boat);
        List<Integer> kept = new ArrayList<>();
        for (int race : series(boat)) {
            if (!out.contains(race)) {
                kept.add(score(race, boat));
            }
        }
        kept.sort(Comparator.naturalOrder());
        return kept;
    }

    private List<Integer> fromLast(int boat) {
        List<Integer> scores = new ArrayList<>();
        for (int race : series(boat)) {
            scores.add(0, score(race, boat));
        }
        return scores;
    }

    private record Line(int boat, int fleet, int net, List<Integer> kept, List<Integer> fromLast, int lot) {
    }

    private List<Integer> order() {
        List<Line> lines = new ArrayList<>();
        for (int boat = 0; boat < lots.size(); boat++) {
            int lot = lots.get(boat) == 0 ? 1000 : lots.get(boat);
            lines.add(new Line(boat, fleets.get(boat), net(boat), kept(boat), fromLast(boat), lot));
        }
        lines.sort(Comparator.comparingInt(Line::fleet).thenComparingInt(Line::net)
                .thenComparing(Line::kept, Model::compareScores)
                .thenComparing(Line::fromLast, Model::compareScores)
                .thenComparingInt(Line::lot).thenComparingInt(Line::boat));
        return new ArrayList<>(lines.stream().map(Line::boat).toList());
    }

    private static int compareScores(List<Integer> a, List<Integer> b) {
        for (int i = 0; i < Math.min(a.size(), b.size()); i++) {
            if (!a.get(i).equals(b.get(i))) {
                return a.get(i) - b.get(i);
            }
        }
        return b.size() - a.size();
    }

    private static String tenths(int tenths) {
        return tenths / 10 + "." + tenths % 10;
    }

    private static String name(Entry entry) {
        if (entry == null) {
            return "DNC";
        }
        if (entry.code == 0) {
            return entry.percent == 0 ? "" : "SCP";
        }
        return List.of("DNS", "OCS", "RET", "DSQ", "DNE", "RDA", "RDB", "RDG").get(entry.code - 1);
    }
}
