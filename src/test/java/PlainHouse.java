import java.util.ArrayList;
import java.util.HashMap;
import java.util.HashSet;
import java.util.List;
import java.util.Map;
import java.util.Set;

/**
 * The document once more, by recursion over lists and maps: slow and without thought of room, so that
 * RandomTest can hold the class against something that was not made like it.
 */
final class PlainHouse {
    private record Told(int day, Integer figure) {
    }

    private record Line(int what, int area, int item, int period, int value) {
    }

    private record Spot(int area, int item) {
    }

    private final List<Integer> areaIn = new ArrayList<>();
    private final List<Integer> itemIn = new ArrayList<>();
    private final Set<Integer> agreed = new HashSet<>();
    private final Map<Integer, List<Told>> told = new HashMap<>();
    private final Set<Integer> secrets = new HashSet<>();
    private List<Line> draft = new ArrayList<>();
    private List<Integer> refusals = new ArrayList<>();
    private int sent = 0;
    private int today = 0;

    private static void index(boolean holds) {
        if (!holds) {
            throw new IndexOutOfBoundsException();
        }
    }

    private static void argument(boolean holds) {
        if (!holds) {
            throw new IllegalArgumentException();
        }
    }

    private static void state(boolean holds) {
        if (!holds) {
            throw new IllegalStateException();
        }
    }

    private static boolean in(int number, int least, int most) {
        return number >= least && number <= most;
    }

    private void cell(int area, int item, int period) {
        index(in(area, 0, areaIn.size() - 1) && in(item, 0, itemIn.size() - 1) && in(period, 0, 11));
    }

    private static int key(int area, int item, int period) {
        return (area * 100 + item) * 100 + period;
    }

    private List<Told> story(int area, int item, int period) {
        return told.computeIfAbsent(key(area, item, period), k -> new ArrayList<>());
    }

    private static boolean lies(List<Integer> tree, int number, int other) {
        return other == -1 || number == other || number != -1 && lies(tree, tree.get(number), other);
    }

    private static List<Integer> rightIn(List<Integer> tree, int number) {
        List<Integer> all = new ArrayList<>();
        for (int n = 0; n < tree.size(); n++) {
            if (tree.get(n) == number) {
                all.add(n);
            }
        }
        return all;
    }

    private static int take(List<Integer> tree, int in, int most) {
        index(in(in, -1, tree.size() - 1));
        state(tree.size() < most);
        tree.add(in);
        return tree.size() - 1;
    }

    int area(int in) {
        return take(areaIn, in, 14);
    }

    int item(int in) {
        return take(itemIn, in, 10);
    }

    boolean agree(int sender, int area, boolean isOn) {
        index(in(sender, 0, 3) && in(area, 0, areaIn.size() - 1));
        return isOn ? agreed.add(sender * 100 + area) : agreed.remove(sender * 100 + area);
    }

    boolean mayTell(int sender, int area) {
        index(in(sender, 0, 3) && in(area, 0, areaIn.size() - 1));
        for (int at = area; at != -1; at = areaIn.get(at)) {
            if (agreed.contains(sender * 100 + at)) {
                return true;
            }
        }
        return false;
    }

    int put(int what, int area, int item, int period, int value) {
        cell(area, item, period);
        argument(in(what, 0, 2) && in(value, -1000000, 1000000));
        state(draft.size() < 16);
        draft.add(new Line(what, area, item, period, value));
        return draft.size();
    }

    int wipe() {
        int lines = draft.size();
        draft = new ArrayList<>();
        return lines;
    }

    int send(int sender) {
        index(in(sender, 0, 3));
        state(!draft.isEmpty() && sent + draft.size() <= 300);
        refusals = new ArrayList<>();
        int done = 0;
        for (Line line : draft) {
            int reason = reason(sender, line);
            refusals.add(reason);
            if (reason == 0) {
                Integer figure = line.what() == 2 ? null : line.value();
                story(line.area(), line.item(), line.period()).add(new Told(today, figure));
                done++;
            }
        }
        sent += draft.size();
        draft = new ArrayList<>();
        return done;
    }

    private int reason(int sender, Line line) {
        Integer figure = known(line.area(), line.item(), line.period(), today);
        if (!mayTell(sender, line.area())) {
            return 1;
        }
        if (line.what() == 0 && figure != null) {
            return 2;
        }
        if (line.what() != 0 && figure == null) {
            return 3;
        }
        return line.what() == 1 && figure == line.value() ? 4 : 0;
    }

    int refusal(int line) {
        index(in(line, 0, refusals.size() - 1));
        return refusals.get(line);
    }

    int secret(int area, int item, int period, boolean isSecret) {
        cell(area, item, period);
        if (isSecret) {
            secrets.add(key(area, item, period));
        } else {
            secrets.remove(key(area, item, period));
        }
        return covered(period).size();
    }

    int pass(int days) {
        argument(in(days, 1, 100));
        state(today + days <= 1000);
        today += days;
        return today;
    }

    private Integer known(int area, int item, int period, int day) {
        Integer figure = null;
        for (Told one : story(area, item, period)) {
            if (one.day() <= day) {
                figure = one.figure();
            }
        }
        return figure;
    }

    private List<Spot> areasIn(int area, int item) {
        List<Spot> spots = new ArrayList<>();
        rightIn(areaIn, area).forEach(a -> spots.add(new Spot(a, item)));
        return spots;
    }

    private List<Spot> itemsIn(int area, int item) {
        List<Spot> spots = new ArrayList<>();
        rightIn(itemIn, item).forEach(i -> spots.add(new Spot(area, i)));
        return spots;
    }

    private Integer total(List<Spot> spots, int period, int day) {
        int total = 0;
        for (Spot spot : spots) {
            Integer one = worth(spot.area(), spot.item(), period, day);
            if (one == null) {
                return null;
            }
            total += one;
        }
        return spots.isEmpty() ? null : total;
    }

    private Integer worth(int area, int item, int period, int day) {
        Integer worth = known(area, item, period, day);
        if (worth == null) {
            worth = total(areasIn(area, item), period, day);
        }
        return worth != null ? worth : total(itemsIn(area, item), period, day);
    }

    private static int orMissing(Integer number) {
        return number == null ? -2000000001 : number;
    }

    int figure(int area, int item, int period, int day) {
        cell(area, item, period);
        argument(in(day, 0, today));
        return orMissing(known(area, item, period, day));
    }

    int value(int area, int item, int period, int day) {
        cell(area, item, period);
        argument(in(day, 0, today));
        return orMissing(worth(area, item, period, day));
    }

    int first(int area, int item, int period) {
        cell(area, item, period);
        List<Told> story = story(area, item, period);
        return orMissing(story.isEmpty() ? null : story.get(0).figure());
    }

    int revisions(int area, int item, int period) {
        cell(area, item, period);
        return story(area, item, period).size();
    }

    boolean hasFault(int area, int item, int period) {
        cell(area, item, period);
        Integer figure = known(area, item, period, today);
        Integer byAreas = total(areasIn(area, item), period, today);
        Integer byItems = total(itemsIn(area, item), period, today);
        return figure != null
                && (byAreas != null && !byAreas.equals(figure) || byItems != null && !byItems.equals(figure));
    }

    /** The rows of a period, in the order in which they are gone through; the first spot is that of the sum. */
    private List<List<Spot>> rows(Map<Spot, Integer> worths) {
        List<List<Spot>> rows = new ArrayList<>();
        for (boolean byAreas : new boolean[] {true, false}) {
            for (int area = 0; area < areaIn.size(); area++) {
                for (int item = 0; item < itemIn.size(); item++) {
                    List<Spot> row = byAreas ? areasIn(area, item) : itemsIn(area, item);
                    if (!row.isEmpty()) {
                        row.add(0, new Spot(area, item));
                        if (worths.keySet().containsAll(row)) {
                            rows.add(row);
                        }
                    }
                }
            }
        }
        return rows;
    }

    private Map<Spot, Integer> worths(int period) {
        Map<Spot, Integer> worths = new HashMap<>();
        for (int area = 0; area < areaIn.size(); area++) {
            for (int item = 0; item < itemIn.size(); item++) {
                Integer worth = worth(area, item, period, today);
                if (worth != null) {
                    worths.put(new Spot(area, item), worth);
                }
            }
        }
        return worths;
    }

    private Set<Spot> covered(int period) {
        Map<Spot, Integer> worths = worths(period);
        Set<Spot> covered = new HashSet<>();
        for (Spot spot : worths.keySet()) {
            if (secrets.contains(key(spot.area(), spot.item(), period))) {
                covered.add(spot);
            }
        }
        List<List<Spot>> rows = rows(worths);
        int before = -1;
        while (before != covered.size()) {
            before = covered.size();
            for (List<Spot> row : rows) {
                coverAnother(row, worths, covered);
            }
        }
        return covered;
    }

    private static void coverAnother(List<Spot> row, Map<Spot, Integer> worths, Set<Spot> covered) {
        if (row.stream().filter(covered::contains).count() != 1) {
            return;
        }
        Spot best = row.stream().skip(1).filter(spot -> !covered.contains(spot))
                .reduce((one, next) -> Math.abs(worths.get(next)) < Math.abs(worths.get(one)) ? next : one)
                .orElse(row.get(0));
        covered.add(best);
    }

    int shown(int area, int item, int period) {
        cell(area, item, period);
        return covered(period).contains(new Spot(area, item)) ? -2000000002
                : orMissing(worth(area, item, period, today));
    }

    int hidden(int period) {
        index(in(period, 0, 11));
        return covered(period).size();
    }

    int find(int area, int item, int from, int to, int since, int place) {
        index(in(area, -1, areaIn.size() - 1) && in(item, -1, itemIn.size() - 1) && place >= 0);
        argument(in(from, 0, 11) && in(to, from, 11) && in(since, 0, 1000));
        List<Integer> found = new ArrayList<>();
        for (int period = from; period <= to; period++) {
            for (int a = 0; a < areaIn.size(); a++) {
                for (int i = 0; i < itemIn.size(); i++) {
                    List<Told> story = story(a, i, period);
                    Told last = story.isEmpty() ? null : story.get(story.size() - 1);
                    if (lies(areaIn, a, area) && lies(itemIn, i, item)
                            && last != null && last.figure() != null && last.day() >= since) {
                        found.add(1000 * period + 20 * a + i);
                    }
                }
            }
        }
        return place < found.size() ? found.get(place) : -1;
    }
}
