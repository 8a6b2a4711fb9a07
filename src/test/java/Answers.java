/** All that a house answers, in one text, so that two houses can be held against each other. */
final class Answers {
    private static final int NONE = Figurehouse.NONE;
    private static final int[] AREAS = {0, 1, 13};
    private static final int[] ITEMS = {0, 1, 9};
    private static final int[] PERIODS = {0, 11};

    /** A call that answers a number. */
    private interface Ask {
        int ask();
    }

    private final Figurehouse house;
    private final StringBuilder text = new StringBuilder();

    private Answers(Figurehouse house) {
        this.house = house;
    }

    /** Its draft, areas, items and days are tried out at the end, so the house is used up; all in some 400 calls. */
    static String of(Figurehouse house) {
        Answers answers = new Answers(house);
        answers.askAll();
        answers.add("the draft", () -> house.send(0));
        answers.askAll();
        answers.add("a line", () -> house.put(Figurehouse.ADD, 0, 0, 0, 0));
        answers.add("the next area", () -> house.area(NONE));
        answers.add("the next item", () -> house.item(NONE));
        answers.add("the next day", () -> house.pass(1));
        return answers.text.toString();
    }

    /** What is asked changes nothing, so the house is as it was behind it; in some 180 calls. */
    static String asked(Figurehouse house) {
        Answers answers = new Answers(house);
        answers.askAll();
        return answers.text.toString();
    }

    private void askAll() {
        for (int area : AREAS) {
            for (int sender = 0; sender < 4; sender++) {
                int teller = sender;
                add("mayTell", () -> house.mayTell(teller, area) ? 1 : 0);
            }
            for (int item : ITEMS) {
                for (int period : PERIODS) {
                    askCell(area, item, period);
                }
            }
        }
        for (int period : PERIODS) {
            add("hidden", () -> house.hidden(period));
        }
        for (int place = 0; place < 6; place++) {
            int at = place;
            add("find", () -> house.find(NONE, NONE, 0, 11, 1, at));
        }
        for (int line = 0; line < 16; line++) {
            int at = line;
            add("refusal", () -> house.refusal(at));
        }
    }

    private void askCell(int area, int item, int period) {
        add("figure", () -> house.figure(area, item, period, 0));
        add("value", () -> house.value(area, item, period, 0));
        add("value on day 3", () -> house.value(area, item, period, 3));
        add("first", () -> house.first(area, item, period));
        add("revisions", () -> house.revisions(area, item, period));
        add("hasFault", () -> house.hasFault(area, item, period) ? 1 : 0);
        add("shown", () -> house.shown(area, item, period));
    }

    private void add(String what, Ask ask) {
        text.append(' ').append(what).append(' ');
        try {
            text.append(ask.ask());
        } catch (IndexOutOfBoundsException | IllegalArgumentException | IllegalStateException thrown) {
            text.append(thrown.getClass().getSimpleName());
        }
    }
}
