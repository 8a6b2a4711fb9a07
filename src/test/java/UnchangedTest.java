/** A call that throws changes nothing: behind all of them a house answers as one that was not called so. */
public final class UnchangedTest {
    private static final int NONE = Figurehouse.NONE;

    public static void main(String[] args) {
        comparesHouses(false);
        comparesHouses(true);
        Check.end("UnchangedTest");
    }

    private static void comparesHouses(boolean isFull) {
        Figurehouse spared = prepared(isFull);
        Figurehouse called = prepared(isFull);
        if (isFull) {
            callsOnTheFullOne(called);
        }
        callsThatThrow(called);
        String name = isFull ? "the full house" : "the house";
        Check.is(name + ": what is asked", told(called), told(spared));
        Check.is(name + ": the draft", drafted(called), drafted(spared));
        Check.is(name + ": what is asked behind the draft", told(called), told(spared));
        Check.is(name + ": what comes on", comesOn(called), comesOn(spared));
    }

    private static Figurehouse prepared(boolean isFull) {
        Figurehouse house = isFull ? Houses.flat(14, 10) : Houses.stars(3, 3);
        house.agree(2, 1, true);
        for (int item = 1; item <= 3; item++) {
            house.put(Figurehouse.ADD, 1, item, 0, 10 * item);
            house.put(Figurehouse.ADD, 2, item, 0, -item);
        }
        house.send(0);
        house.pass(isFull ? 100 : 3);
        house.put(Figurehouse.REPLACE, 1, 1, 0, 10);
        house.put(Figurehouse.REPLACE, 1, 1, 0, 11);
        house.send(0);
        house.secret(1, 1, 0, true);
        house.secret(2, 3, 0, true);
        for (int line = 0; line < (isFull ? 16 : 5); line++) {
            house.put(Figurehouse.ADD, 3, line % 4, line / 4, line);
        }
        for (int hundred = 1; isFull && hundred < 10; hundred++) {
            house.pass(100);
        }
        return house;
    }

    private static void callsOnTheFullOne(Figurehouse house) {
        Check.noState("area", () -> house.area(NONE));
        Check.noState("area", () -> house.area(0));
        Check.noState("item", () -> house.item(NONE));
        Check.noState("item", () -> house.item(0));
        Check.noState("put", () -> house.put(Figurehouse.DELETE, 1, 1, 0, 0));
        Check.noState("pass", () -> house.pass(1));
    }

    private static void callsThatThrow(Figurehouse house) {
        Check.noIndex("area", () -> house.area(-2));
        Check.noIndex("item", () -> house.item(10));
        Check.noIndex("agree", () -> house.agree(-1, 0, true));
        Check.noIndex("agree", () -> house.agree(4, 0, true));
        Check.noIndex("agree", () -> house.agree(1, -1, true));
        Check.noIndex("agree", () -> house.agree(0, 14, false));
        Check.noIndex("put", () -> house.put(Figurehouse.ADD, 14, 0, 0, 0));
        Check.noIndex("put", () -> house.put(Figurehouse.ADD, 0, -1, 0, 0));
        Check.noIndex("put", () -> house.put(Figurehouse.ADD, 0, 0, 12, 0));
        Check.noArgument("put", () -> house.put(3, 0, 0, 0, 0));
        Check.noArgument("put", () -> house.put(Figurehouse.ADD, 0, 0, 0, 1000001));
        Check.noIndex("send", () -> house.send(-1));
        Check.noIndex("send", () -> house.send(4));
        Check.noIndex("refusal", () -> house.refusal(2));
        Check.noIndex("secret", () -> house.secret(14, 0, 0, true));
        Check.noIndex("secret", () -> house.secret(1, 10, 0, true));
        Check.noIndex("secret", () -> house.secret(1, 1, -1, false));
        Check.noIndex("secret", () -> house.secret(1, 1, 12, false));
        Check.noArgument("pass", () -> house.pass(0));
        Check.noArgument("pass", () -> house.pass(101));
        Check.noIndex("figure", () -> house.figure(14, 0, 0, 0));
        Check.noArgument("figure", () -> house.figure(0, 0, 0, -1));
        Check.noIndex("value", () -> house.value(0, 10, 0, 0));
        Check.noArgument("value", () -> house.value(0, 0, 0, 1001));
        Check.noIndex("first", () -> house.first(0, 0, 12));
        Check.noIndex("revisions", () -> house.revisions(-1, 0, 0));
        Check.noIndex("hasFault", () -> house.hasFault(0, -1, 0));
        Check.noIndex("shown", () -> house.shown(0, 0, -1));
        Check.noIndex("hidden", () -> house.hidden(12));
        Check.noIndex("find", () -> house.find(0, 0, 0, 11, 0, -1));
        Check.noArgument("find", () -> house.find(0, 0, 1, 0, 0, 0));
        Check.noIndex("mayTell", () -> house.mayTell(4, 0));
    }

    /** All that can be asked of the areas and items that both houses have. */
    private static String told(Figurehouse house) {
        StringBuilder all = new StringBuilder();
        for (int area = 0; area < 4; area++) {
            for (int sender = 0; sender < 4; sender++) {
                all.append(house.mayTell(sender, area)).append(' ');
            }
            for (int item = 0; item < 4; item++) {
                for (int period = 0; period < 12; period++) {
                    all.append(house.figure(area, item, period, 0)).append(' ');
                    all.append(house.value(area, item, period, 0)).append(' ');
                    all.append(house.figure(area, item, period, 3)).append(' ');
                    all.append(house.value(area, item, period, 3)).append(' ');
                    all.append(house.first(area, item, period)).append(' ');
                    all.append(house.revisions(area, item, period)).append(' ');
                    all.append(house.hasFault(area, item, period)).append(' ');
                    all.append(house.shown(area, item, period)).append(' ');
                }
            }
        }
        all.append(house.hidden(0)).append(' ').append(house.refusal(0)).append(house.refusal(1));
        for (int place = 0; place < 30; place++) {
            all.append(' ').append(house.find(NONE, NONE, 0, 11, 1, place));
        }
        return all.toString();
    }

    private static String drafted(Figurehouse house) {
        StringBuilder all = new StringBuilder();
        all.append(house.send(0)).append(house.refusal(0)).append(house.refusal(4)).append(house.wipe());
        return all.toString();
    }

    /** How many areas, items, days and lines there still are. */
    private static String comesOn(Figurehouse house) {
        StringBuilder all = new StringBuilder();
        all.append(lastOf(() -> house.area(NONE))).append(' ').append(lastOf(() -> house.item(NONE))).append(' ');
        all.append(lastOf(() -> house.pass(1))).append(' ');
        all.append(lastOf(() -> house.put(Figurehouse.ADD, 0, 0, 11, 1))).append(' ');
        house.wipe();
        int[] lines = {0};
        all.append(lastOf(() -> {
            house.put(Figurehouse.REPLACE, 0, 0, 11, 1);
            house.send(0);
            return ++lines[0];
        }));
        return all.toString();
    }

    /** A call that answers a number, or throws as nothing more is left. */
    private interface Step {
        int take();
    }

    private static int lastOf(Step step) {
        int last = -1;
        for (int times = 0; times < 2000; times++) {
            try {
                last = step.take();
            } catch (IllegalStateException full) {
                return last;
            }
        }
        return -2;
    }
}
