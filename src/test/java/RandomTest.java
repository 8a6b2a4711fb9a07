import java.util.Random;

/** Runs of 512 calls by lot, held against PlainHouse: promises 1 to 19 in their interplay. */
public final class RandomTest {
    private static final int RUNS = 400;
    private static final int CALLS = 512;

    /** A call on one of the two houses. */
    private interface Ask {
        long ask();
    }

    private final Random lot;
    private final Figurehouse house = new Figurehouse();
    private final PlainHouse plain = new PlainHouse();
    private final int run;
    // Small worlds let sums, faults and rows come about; large ones reach the limits.
    private final int areaGoal;
    private final int itemGoal;
    private final int periods;
    private final int reach;
    private final boolean isWild;
    private int areas = 0;
    private int items = 0;
    private int today = 0;

    private RandomTest(int run) {
        this.run = run;
        lot = new Random(run);
        areaGoal = 1 + lot.nextInt(run % 3 == 0 ? 14 : 5);
        itemGoal = 1 + lot.nextInt(run % 5 == 0 ? 10 : 4);
        periods = 1 + lot.nextInt(run % 4 == 0 ? 12 : 2);
        reach = lot.nextInt(4) == 0 ? 1000000 : 1 + lot.nextInt(12);
        isWild = run % 7 == 0;
    }

    public static void main(String[] args) {
        for (int run = 0; run < RUNS; run++) {
            RandomTest one = new RandomTest(run);
            for (int call = 0; call < CALLS; call++) {
                one.step(call);
            }
        }
        Check.end("RandomTest");
    }

    private static String answer(Ask ask) {
        try {
            return Long.toString(ask.ask());
        } catch (RuntimeException thrown) {
            return "throws." + thrown.getClass().getSimpleName();
        }
    }

    private String same(String call, Ask own, Ask model) {
        String due = answer(model);
        Check.is("run " + run + ", " + call, answer(own), due);
        return due;
    }

    private static long bit(boolean is) {
        return is ? 1 : 0;
    }

    /** Mostly a number below the bound, now and then one that is not. */
    private int some(int bound) {
        if (isWild && lot.nextInt(12) == 0) {
            int[] wild = {-1, -2, bound, bound + 1, Integer.MIN_VALUE, Integer.MAX_VALUE};
            return wild[lot.nextInt(wild.length)];
        }
        return lot.nextInt(Math.max(1, bound));
    }

    private int someOrNone(int bound) {
        return bound == 0 || lot.nextInt(3) == 0 ? -1 : some(bound);
    }

    private void step(int call) {
        boolean isGrowing = areas < areaGoal || items < itemGoal;
        if (isGrowing && (call < 30 || lot.nextInt(40) == 0)) {
            grow();
        } else {
            int kind = lot.nextInt(100);
            if (kind < 55) {
                change(kind);
            } else {
                ask(kind);
            }
        }
    }

    private void grow() {
        if (areas < areaGoal && (items >= itemGoal || lot.nextBoolean())) {
            int in = someOrNone(areas);
            if (!same("area(" + in + ")", () -> house.area(in), () -> plain.area(in)).startsWith("t")) {
                areas++;
            }
        } else {
            int in = someOrNone(items);
            if (!same("item(" + in + ")", () -> house.item(in), () -> plain.item(in)).startsWith("t")) {
                items++;
            }
        }
    }

    private void change(int kind) {
        int area = some(areas);
        int item = some(items);
        int period = some(periods);
        int sender = lot.nextInt(4) == 0 ? some(4) : 0;
        boolean is = lot.nextInt(3) > 0;
        if (kind < 6) {
            same("agree", () -> bit(house.agree(sender, area, is)), () -> bit(plain.agree(sender, area, is)));
        } else if (kind < 38) {
            int what = lot.nextInt(3) > 0 ? 0 : some(3);
            int value = isWild && lot.nextInt(20) == 0 ? lot.nextInt() : lot.nextInt(2 * reach + 1) - reach;
            same("put", () -> house.put(what, area, item, period, value),
                    () -> plain.put(what, area, item, period, value));
        } else if (kind < 44) {
            same("send", () -> house.send(sender), () -> plain.send(sender));
        } else if (kind < 45) {
            same("wipe", house::wipe, plain::wipe);
        } else if (kind < 52) {
            same("secret", () -> house.secret(area, item, period, is), () -> plain.secret(area, item, period, is));
        } else {
            int days = isWild ? some(101) : 1 + lot.nextInt(3);
            String due = same("pass", () -> house.pass(days), () -> plain.pass(days));
            today = due.startsWith("t") ? today : Integer.parseInt(due);
        }
    }

    private void ask(int kind) {
        int area = some(areas);
        int item = some(items);
        int period = some(periods);
        int day = some(today + 1);
        if (kind < 58) {
            same("figure", () -> house.figure(area, item, period, day), () -> plain.figure(area, item, period, day));
        } else if (kind < 65) {
            same("value", () -> house.value(area, item, period, day), () -> plain.value(area, item, period, day));
        } else if (kind < 67) {
            same("first", () -> house.first(area, item, period), () -> plain.first(area, item, period));
        } else if (kind < 69) {
            same("revisions", () -> house.revisions(area, item, period), () -> plain.revisions(area, item, period));
        } else if (kind < 75) {
            same("hasFault", () -> bit(house.hasFault(area, item, period)),
                    () -> bit(plain.hasFault(area, item, period)));
        } else if (kind < 83) {
            same("shown", () -> house.shown(area, item, period), () -> plain.shown(area, item, period));
        } else if (kind < 87) {
            same("hidden", () -> house.hidden(period), () -> plain.hidden(period));
        } else if (kind < 94) {
            askFind(period, day);
        } else if (kind < 97) {
            int line = some(16);
            same("refusal", () -> house.refusal(line), () -> plain.refusal(line));
        } else {
            int sender = some(4);
            same("mayTell", () -> bit(house.mayTell(sender, area)), () -> bit(plain.mayTell(sender, area)));
        }
    }

    private void askFind(int to, int since) {
        int area = someOrNone(areas);
        int item = someOrNone(items);
        int from = lot.nextInt(3) == 0 ? some(periods) : 0;
        int place = lot.nextInt(2) == 0 ? 0 : some(8);
        same("find", () -> house.find(area, item, from, to, since, place),
                () -> plain.find(area, item, from, to, since, place));
    }
}
