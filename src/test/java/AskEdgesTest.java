/** Promises 9 to 19, row by row: the ends of each parameter, of what is returned, and each throws clause. */
public final class AskEdgesTest {
    private static final int NONE = Figurehouse.NONE;
    private static final int MISSING = Figurehouse.MISSING;
    private static final int HIDDEN = Figurehouse.HIDDEN;
    private static final int ADD = Figurehouse.ADD;
    private static final int REPLACE = Figurehouse.REPLACE;

    public static void main(String[] args) {
        secret();
        secretReturns();
        pass();
        passThrows();
        figure();
        figureDays();
        value();
        valueDays();
        first();
        revisions();
        hasFault();
        shown();
        hidden();
        findAreasAndItems();
        findPeriods();
        findSince();
        findPlaces();
        findThrows();
        mayTell();
        Doc.end("AskEdgesTest", Doc.promises(9, 19));
    }

    /** Each cell of period 5 has a figure, 20 times its area and its item; areas and items lie in none. */
    private static Figurehouse filled() {
        Figurehouse house = Houses.flat(14, 10);
        for (int area = 0; area < 14; area++) {
            for (int item = 0; item < 10; item++) {
                house.put(ADD, area, item, 5, 20 * area + item);
            }
            house.send(0);
        }
        return house;
    }

    /** One cell, with such a figure on day 0. */
    private static Figurehouse one(int figure) {
        Figurehouse house = Houses.flat(1, 1);
        Houses.add(house, 0, 0, 0, figure);
        return house;
    }

    private static void secret() {
        Doc.at(9, "Tells that a cell is secret, or not");
        Figurehouse house = filled();
        house.secret(13, 9, 5, true);
        Check.is("the cell", house.shown(13, 9, 5), HIDDEN);
        Check.is("no other item", house.shown(13, 8, 5), 268);
        Check.is("no other area", house.shown(12, 9, 5), 249);
        Figurehouse year = year();
        year.secret(0, 0, 5, true);
        for (int period = 0; period < 12; period++) {
            Check.is("in no other period", year.shown(0, 0, period), period == 5 ? HIDDEN : 1);
        }
        Edges.cellRows(9, (any, area, item, period) -> any.secret(area, item, period, true));
        Doc.at(9, "`isSecret`: whether it is secret then");
        for (boolean isSecret : new boolean[] {false, true, true, false, false, true}) {
            house.secret(0, 0, 5, isSecret);
            Check.is("it is, " + isSecret, house.shown(0, 0, 5), isSecret ? HIDDEN : 0);
        }
    }

    private static void secretReturns() {
        Doc.at(9, "Returns how many cells of the period are hidden then");
        Figurehouse house = filled();
        for (int cell = 0; cell < 140; cell++) {
            Check.is("one more", house.secret(cell / 10, cell % 10, 5, true), cell + 1);
        }
        Check.is("of another period none", house.secret(0, 0, 6, true), 0);
        Check.is("one less", house.secret(13, 9, 5, false), 139);
        Check.is("those hidden besides count", one(1).secret(0, 0, 0, true) + pair().secret(1, 0, 0, true), 3);
        Check.is("none, without values", Houses.flat(1, 1).secret(0, 0, 0, true), 0);
    }

    /** Area 0 has two parts, of 4 and 5. */
    private static Figurehouse pair() {
        Figurehouse house = Houses.stars(2, 0);
        Houses.add(house, 1, 0, 0, 4);
        Houses.add(house, 2, 0, 0, 5);
        return house;
    }

    private static Figurehouse on(int hundreds, int days) {
        Figurehouse house = Houses.flat(1, 1);
        for (int hundred = 0; hundred < hundreds; hundred++) {
            house.pass(100);
        }
        if (days > 0) {
            house.pass(days);
        }
        return house;
    }

    private static void pass() {
        Doc.at(10, "Lets days go by");
        Figurehouse house = one(7);
        house.pass(1);
        Houses.replace(house, 0, 0, 0, 8);
        Check.is("the day ahead", house.figure(0, 0, 0, 0), 7);
        Check.is("the day", house.figure(0, 0, 0, 1), 8);
        Check.noArgument("the day behind it", () -> house.figure(0, 0, 0, 2));
        Doc.at(10, "`days`: 1 to 100");
        Edges.argumentRange(Figurehouse::new, 1, 100, Figurehouse::pass);
        Edges.argumentRange(() -> on(9, 0), 1, 100, Figurehouse::pass);
        Doc.at(10, "Returns today");
        Check.is("the first day", new Figurehouse().pass(1), 1);
        Check.is("the most at once", new Figurehouse().pass(100), 100);
        Check.is("days come together", on(3, 3).pass(4), 307);
        Check.is("the last day", on(9, 99).pass(1), 1000);
    }

    private static void passThrows() {
        Doc.at(10, "Throws `IllegalArgumentException` if days is out of range");
        Edges.noArgument("none", Edges::some, house -> house.pass(0));
        Edges.noArgument("back", () -> on(10, 0), house -> house.pass(-1));
        Edges.noArgument("more than 100", Edges::some, house -> house.pass(101));
        Edges.noArgument("ahead of today being 1000", Edges::full, house -> house.pass(0));
        Edges.noArgument("a sum that wraps around", Edges::full, house -> house.pass(Integer.MAX_VALUE));
        Doc.at(10, "Throws `IllegalStateException` if today would be above 1000");
        Edges.allowed("1000", () -> on(9, 0), house -> house.pass(100));
        Edges.noState("1001, from 901", () -> on(9, 1), house -> house.pass(100));
        Edges.noState("1001, from 999", () -> on(9, 99), house -> house.pass(2));
        Edges.noState("1001, from 1000", Edges::full, house -> house.pass(1));
        Edges.noState("1100, from 1000", Edges::full, house -> house.pass(100));
        Figurehouse house = on(9, 1);
        Check.noState("1001", () -> house.pass(100));
        Check.is("fewer days may go by yet", house.pass(99), 1000);
    }

    private static void figure() {
        Doc.at(11, "Returns the figure of a cell as it was known on a day");
        Figurehouse house = filled();
        Check.is("of the last cell", house.figure(13, 9, 5, 0), 269);
        Check.is("of the first cell", house.figure(0, 0, 5, 0), 0);
        Edges.cellRows(11, (any, area, item, period) -> any.figure(area, item, period, 0));
        Doc.at(11, "Returns the figure; MISSING without");
        for (int value : new int[] {-1000000, -1, 0, 1, 1000000}) {
            Check.is("it", one(value).figure(0, 0, 0, 0), value);
        }
        Check.is("never told", one(1).figure(0, 0, 1, 0), MISSING);
        Check.is("a sum is none", pair().figure(0, 0, 0, 0), MISSING);
        Figurehouse deleted = one(1);
        Houses.delete(deleted, 0, 0, 0);
        Check.is("deleted", deleted.figure(0, 0, 0, 0), MISSING);
    }

    /** Told on day 0, deleted on day 1, told again on day 1000. */
    private static Figurehouse longTold() {
        Figurehouse house = one(6);
        house.pass(1);
        Houses.delete(house, 0, 0, 0);
        house.pass(99);
        for (int hundred = 1; hundred < 10; hundred++) {
            house.pass(100);
        }
        Houses.add(house, 0, 0, 0, 9);
        return house;
    }

    private static void figureDays() {
        Doc.at(11, "`day`: 0 to today");
        Edges.argumentRange(Houses::single, 0, 0, (house, day) -> house.figure(0, 0, 0, day));
        Edges.argumentRange(Edges::some, 0, 3, (house, day) -> house.figure(0, 0, 0, day));
        Edges.argumentRange(Edges::full, 0, 1000, (house, day) -> house.figure(13, 9, 11, day));
        Check.is("on day 0", longTold().figure(0, 0, 0, 0), 6);
        Check.is("on day 1", longTold().figure(0, 0, 0, 1), MISSING);
        Check.is("on day 999", longTold().figure(0, 0, 0, 999), MISSING);
        Check.is("on day 1000", longTold().figure(0, 0, 0, 1000), 9);
        Doc.at(11, "Throws `IllegalArgumentException` if day is out of range");
        Edges.noArgument("yesterday of day 0", Houses::single, house -> house.figure(0, 0, 0, -1));
        Edges.noArgument("tomorrow of day 0", Houses::single, house -> house.figure(0, 0, 0, 1));
        Edges.noArgument("tomorrow of day 1000", Edges::full, house -> house.figure(0, 0, 0, 1001));
        Edges.noIndex("the cell goes ahead", Edges::some, house -> house.figure(0, 0, -1, 4));
    }

    private static void value() {
        Doc.at(12, "Returns the value of a cell as it was known on a day");
        Check.is("by areas", pair().value(0, 0, 0, 0), 9);
        Figurehouse items = Houses.stars(0, 1);
        Houses.add(items, 0, 1, 0, -4);
        Check.is("by items", items.value(0, 0, 0, 0), -4);
        Edges.cellRows(12, (any, area, item, period) -> any.value(area, item, period, 0));
        Doc.at(12, "Returns the value; MISSING without");
        for (int value : new int[] {-1000000, -1, 0, 1, 1000000}) {
            Check.is("a figure", one(value).value(0, 0, 0, 0), value);
        }
        Check.is("never told", one(1).value(0, 0, 11, 0), MISSING);
        Check.is("the least sum", farthestSum(-1000000).value(0, 0, 11, 0), -117000000);
        Check.is("the largest sum", farthestSum(1000000).value(0, 0, 11, 0), 117000000);
    }

    /** 13 areas in area 0 and 9 items in item 0, all with the same figure in period 11. */
    private static Figurehouse farthestSum(int figure) {
        Figurehouse house = Houses.stars(13, 9);
        for (int area = 1; area < 14; area++) {
            for (int item = 1; item < 10; item++) {
                house.put(ADD, area, item, 11, figure);
            }
            house.send(0);
        }
        return house;
    }

    private static void valueDays() {
        Doc.at(12, "`day`: 0 to today");
        Edges.argumentRange(Houses::single, 0, 0, (house, day) -> house.value(0, 0, 0, day));
        Edges.argumentRange(Edges::some, 0, 3, (house, day) -> house.value(0, 0, 0, day));
        Edges.argumentRange(Edges::full, 0, 1000, (house, day) -> house.value(13, 9, 11, day));
        Check.is("on day 0", longTold().value(0, 0, 0, 0), 6);
        Check.is("on day 999", longTold().value(0, 0, 0, 999), MISSING);
        Check.is("on day 1000", longTold().value(0, 0, 0, 1000), 9);
        Figurehouse sums = pair();
        sums.pass(1);
        Houses.replace(sums, 2, 0, 0, 50);
        Check.is("a sum of day 0", sums.value(0, 0, 0, 0), 9);
        Check.is("a sum of today", sums.value(0, 0, 0, 1), 54);
        Doc.at(12, "Throws `IllegalArgumentException` if day is out of range");
        Edges.noArgument("yesterday of day 0", Houses::single, house -> house.value(0, 0, 0, -1));
        Edges.noArgument("tomorrow of day 0", Houses::single, house -> house.value(0, 0, 0, 1));
        Edges.noArgument("tomorrow of day 1000", Edges::full, house -> house.value(0, 0, 0, 1001));
        Edges.noIndex("the cell goes ahead", Edges::some, house -> house.value(0, 3, 0, 4));
    }

    private static void first() {
        Doc.at(13, "Returns the first figure that a cell ever had");
        Figurehouse house = longTold();
        Check.is("deleted and added again", house.first(0, 0, 0), 6);
        Houses.replace(house, 0, 0, 0, 10);
        Check.is("replaced", house.first(0, 0, 0), 6);
        Edges.cellRows(13, Figurehouse::first);
        Doc.at(13, "Returns the figure; MISSING without");
        for (int value : new int[] {-1000000, 0, 1000000}) {
            Check.is("it", one(value).first(0, 0, 0), value);
        }
        Check.is("never told", one(1).first(0, 0, 1), MISSING);
        Check.is("a sum is none", pair().first(0, 0, 0), MISSING);
        Figurehouse deleted = one(0);
        Houses.delete(deleted, 0, 0, 0);
        Check.is("deleted", deleted.first(0, 0, 0), 0);
        Figurehouse refused = Houses.single();
        Houses.replace(refused, 0, 0, 0, 1);
        Check.is("refused", refused.first(0, 0, 0), MISSING);
        refused.put(ADD, 0, 0, 0, 1);
        Check.is("drafted", refused.first(0, 0, 0), MISSING);
    }

    private static void revisions() {
        Doc.at(14, "Returns the revisions of a cell");
        Figurehouse house = Houses.single();
        Check.is("none", house.revisions(0, 0, 0), 0);
        for (int line = 1; line <= 300; line++) {
            house.put(line == 1 ? ADD : REPLACE, 0, 0, 0, line);
            if (line % 16 == 0 || line == 300) {
                house.send(0);
                Check.is("lines", house.revisions(0, 0, 0), line);
            }
        }
        Check.is("of another period", house.revisions(0, 0, 1), 0);
        Edges.cellRows(14, Figurehouse::revisions);
    }

    private static void hasFault() {
        Doc.at(15, "Tells whether a cell has a fault today");
        Figurehouse house = pair();
        Check.is("no figure", house.hasFault(0, 0, 0), false);
        Houses.add(house, 0, 0, 0, 10);
        Check.is("one above the sum", house.hasFault(0, 0, 0), true);
        house.pass(100);
        Check.is("on a later day", house.hasFault(0, 0, 0), true);
        Houses.replace(house, 0, 0, 0, 9);
        Check.is("the sum, today", house.hasFault(0, 0, 0), false);
        Houses.replace(house, 0, 0, 0, 8);
        Check.is("one below the sum", house.hasFault(0, 0, 0), true);
        Houses.delete(house, 1, 0, 0);
        Check.is("a part without", house.hasFault(0, 0, 0), false);
        Figurehouse large = farthestSum(1000000);
        Houses.add(large, 0, 0, 11, 1000000);
        Check.is("the largest sum", large.hasFault(0, 0, 11), true);
        Edges.cellRows(15, Figurehouse::hasFault);
    }

    private static void shown() {
        Doc.at(16, "Returns what is shown of a cell today");
        Figurehouse house = pair();
        house.secret(1, 0, 0, true);
        house.pass(1);
        Houses.delete(house, 2, 0, 0);
        Check.is("the part without is missing today", house.shown(2, 0, 0), MISSING);
        Check.is("the secret one is hidden still", house.shown(1, 0, 0), HIDDEN);
        Houses.add(house, 2, 0, 0, 7);
        Check.is("the sum of today", house.shown(0, 0, 0), 11);
        Edges.cellRows(16, Figurehouse::shown);
        Doc.at(16, "Returns the value; HIDDEN, if it is hidden, MISSING without");
        for (int value : new int[] {-1000000, 0, 1000000}) {
            Figurehouse single = one(value);
            Check.is("the value", single.shown(0, 0, 0), value);
            single.secret(0, 0, 0, true);
            Check.is("hidden", single.shown(0, 0, 0), HIDDEN);
            single.secret(0, 0, 1, true);
            Check.is("secret, without", single.shown(0, 0, 1), MISSING);
            Check.is("without", single.shown(0, 0, 2), MISSING);
        }
        Check.is("a sum", pair().shown(0, 0, 0), 9);
    }

    private static void hidden() {
        Doc.at(17, "Counts the cells that are hidden");
        Figurehouse house = filled();
        Check.is("none", house.hidden(5), 0);
        for (int cell = 0; cell < 140; cell++) {
            house.secret(cell / 10, cell % 10, 5, true);
        }
        Check.is("all", house.hidden(5), 140);
        Check.is("the period ahead", house.hidden(4), 0);
        Check.is("the next period", house.hidden(6), 0);
        Check.is("a new house", new Figurehouse().hidden(0), 0);
        Doc.at(17, "`period`: 0 to 11");
        Edges.indexRange(Figurehouse::new, 0, 11, Figurehouse::hidden);
        Edges.indexRange(Edges::full, 0, 11, Figurehouse::hidden);
        Doc.at(17, "Throws `IndexOutOfBoundsException` if there is no such period");
        Edges.noIndex("ahead of the first", Edges::some, any -> any.hidden(-1));
        Edges.noIndex("behind the last", Edges::some, any -> any.hidden(12));
    }

    /** Areas 0, 1 in 0, 2 in 1, and 3; items likewise; each cell of period 0 has a figure. */
    private static Figurehouse trees() {
        Figurehouse house = new Figurehouse();
        for (int number = 0; number < 4; number++) {
            house.area(number < 3 ? number - 1 : NONE);
            house.item(number < 3 ? number - 1 : NONE);
            house.agree(0, number, true);
        }
        for (int cell = 0; cell < 16; cell++) {
            house.put(ADD, cell / 4, cell % 4, 0, 1);
        }
        house.send(0);
        return house;
    }

    private static int count(Figurehouse house, int area, int item) {
        int place = 0;
        while (place < 20 && house.find(area, item, 0, 11, 0, place) != NONE) {
            place++;
        }
        return place;
    }

    private static void findAreasAndItems() {
        int[] due = {3, 2, 1, 1};
        Doc.at(18, "`area`: the number of an area: those in it, right or farther, and itself; or NONE, for all");
        Edges.indexRange(Edges::some, NONE, 2, (any, area) -> any.find(area, 0, 0, 11, 0, 0));
        Edges.indexRange(Edges::full, NONE, 13, (any, area) -> any.find(area, 0, 0, 11, 0, 0));
        Check.is("NONE without areas", new Figurehouse().find(NONE, NONE, 0, 11, 0, 0), NONE);
        Check.is("all areas", count(trees(), NONE, 0), 12);
        Doc.at(18, "`item`: the number of an item: likewise; or NONE");
        Edges.indexRange(Edges::some, NONE, 2, (any, item) -> any.find(0, item, 0, 11, 0, 0));
        Edges.indexRange(Edges::full, NONE, 9, (any, item) -> any.find(0, item, 0, 11, 0, 0));
        Check.is("all items", count(trees(), 0, NONE), 12);
        for (int area = 0; area < 4; area++) {
            Check.is("of area " + area, count(trees(), area, 3), due[area]);
            Check.is("of item " + area, count(trees(), 3, area), due[area]);
            Check.is("of both " + area, count(trees(), area, area), due[area] * due[area]);
        }
        Check.is("all", trees().find(NONE, NONE, 0, 11, 0, 15), 63);
        Check.is("no more", trees().find(NONE, NONE, 0, 11, 0, 16), NONE);
    }

    /** One cell, with a figure in each period. */
    private static Figurehouse year() {
        Figurehouse house = Houses.single();
        for (int period = 0; period < 12; period++) {
            house.put(ADD, 0, 0, period, 1);
        }
        house.send(0);
        return house;
    }

    private static void findPeriods() {
        Doc.at(18, "`from`: 0 to 11: the first period");
        Edges.argumentRange(Edges::some, 0, 11, (any, from) -> any.find(0, 0, from, 11, 0, 0));
        Check.is("from the first", year().find(0, 0, 0, 11, 0, 0), 0);
        Check.is("from the last", year().find(0, 0, 11, 11, 0, 0), 11000);
        Check.is("none ahead of it", year().find(0, 0, 11, 11, 0, 1), NONE);
        Doc.at(18, "`to`: from to 11: the last period");
        for (int from = 0; from < 12; from++) {
            int first = from;
            Edges.argumentRange(Edges::some, from, 11, (any, to) -> any.find(0, 0, first, to, 0, 0));
            Check.is("one period", year().find(0, 0, from, from, 0, 0), 1000 * from);
            Check.is("one period alone", year().find(0, 0, from, from, 0, 1), NONE);
        }
        Check.is("to the last", year().find(0, 0, 0, 11, 0, 11), 11000);
        Check.is("to the one ahead of it", year().find(0, 0, 0, 10, 0, 11), NONE);
    }

    private static void findSince() {
        Doc.at(18, "of those that have a figure today, and were told last on a day or behind it");
        Check.is("a sum is no figure", pair().find(0, 0, 0, 11, 0, 0), 20);
        Figurehouse house = one(1);
        Houses.delete(house, 0, 0, 0);
        Check.is("deleted", house.find(0, 0, 0, 11, 0, 0), NONE);
        house.pass(1);
        Houses.add(house, 0, 0, 0, 0);
        Check.is("added again, 0", house.find(0, 0, 0, 11, 1, 0), 0);
        house.pass(1);
        Houses.replace(house, 0, 0, 0, 0);
        Check.is("a refused line tells nothing", house.find(0, 0, 0, 11, 2, 0), NONE);
        Doc.at(18, "`since`: 0 to 1000: the day");
        Edges.argumentRange(Houses::single, 0, 1000, (any, since) -> any.find(0, 0, 0, 11, since, 0));
        Edges.argumentRange(Edges::full, 0, 1000, (any, since) -> any.find(0, 0, 0, 11, since, 0));
        Check.is("on the day itself", house.find(0, 0, 0, 11, 1, 0), 0);
        Check.is("ahead of it", house.find(0, 0, 0, 11, 0, 0), 0);
        Check.is("behind today, which is no fault", house.find(0, 0, 0, 11, 1000, 0), NONE);
        Check.is("told on the last day", longTold().find(0, 0, 0, 11, 1000, 0), 0);
    }

    private static void findPlaces() {
        Doc.at(18, "`place`: from 0 on, by periods, then areas, then items");
        Edges.indexRange(Edges::some, 0, Integer.MAX_VALUE, (any, place) -> any.find(NONE, NONE, 0, 11, 0, place));
        Figurehouse order = trees();
        int[] due = {0, 1, 2, 3, 20, 21, 22, 23, 40, 41, 42, 43, 60, 61, 62, 63};
        for (int place = 0; place < due.length; place++) {
            Check.is("by areas, then items", order.find(NONE, NONE, 0, 11, 0, place), due[place]);
        }
        Houses.add(order, 0, 0, 1, 1);
        Check.is("by periods ahead of both", order.find(NONE, NONE, 0, 11, 0, 16), 1000);
        Doc.at(18, "Returns 1000 times the period, 20 times the area, and the item, together; NONE, if there are not");
        Figurehouse house = filled();
        for (int cell = 0; cell < 140; cell++) {
            Check.is("cell " + cell, house.find(NONE, NONE, 0, 11, 0, cell), 5000 + 20 * (cell / 10) + cell % 10);
        }
        Check.is("one more than all", house.find(NONE, NONE, 0, 11, 0, 140), NONE);
        Check.is("the farthest place", house.find(NONE, NONE, 0, 11, 0, Integer.MAX_VALUE), NONE);
        Check.is("the first cell of all", one(1).find(NONE, NONE, 0, 11, 0, 0), 0);
        Houses.add(house, 13, 9, 11, 1);
        Check.is("the last cell of all", house.find(NONE, NONE, 6, 11, 0, 0), 11269);
        Check.is("none", Houses.single().find(0, 0, 0, 11, 0, 0), NONE);
    }

    private static void findThrows() {
        Doc.at(18, "Throws `IndexOutOfBoundsException` if there is no such area or item, but for NONE, or place is below");
        Edges.noIndex("no areas", Figurehouse::new, any -> any.find(0, NONE, 0, 11, 0, 0));
        Edges.noIndex("no items", Figurehouse::new, any -> any.find(NONE, 0, 0, 11, 0, 0));
        Edges.noIndex("below NONE, the area", Edges::full, any -> any.find(-2, NONE, 0, 11, 0, 0));
        Edges.noIndex("below NONE, the item", Edges::full, any -> any.find(NONE, -2, 0, 11, 0, 0));
        Edges.noIndex("the area behind the last", Edges::full, any -> any.find(14, 0, 0, 11, 0, 0));
        Edges.noIndex("the item behind the last", Edges::full, any -> any.find(0, 10, 0, 11, 0, 0));
        Edges.noIndex("a place below 0", Edges::full, any -> any.find(0, 0, 0, 11, 0, -1));
        Edges.noIndex("a place of NONE", Figurehouse::new, any -> any.find(NONE, NONE, 0, 11, 0, NONE));
        Edges.noIndex("ahead of all periods", Edges::some, any -> any.find(3, 0, 12, -1, -1, 0));
        Doc.at(18, "Throws `IllegalArgumentException` if from, to or since is out of range");
        Edges.noArgument("from ahead of the first", Edges::some, any -> any.find(0, 0, -1, 11, 0, 0));
        Edges.noArgument("from behind the last", Edges::some, any -> any.find(0, 0, 12, 12, 0, 0));
        Edges.noArgument("to behind the last", Edges::some, any -> any.find(0, 0, 0, 12, 0, 0));
        Edges.noArgument("to ahead of from", Edges::some, any -> any.find(0, 0, 1, 0, 0, 0));
        Edges.noArgument("since below 0", Edges::some, any -> any.find(0, 0, 0, 11, -1, 0));
        Edges.noArgument("since above 1000", Edges::some, any -> any.find(0, 0, 0, 11, 1001, 0));
        Edges.noArgument("though there is nothing", Figurehouse::new, any -> any.find(NONE, NONE, 0, 12, 0, 0));
    }

    private static void mayTell() {
        Doc.at(19, "Tells whether a sender may tell figures of an area");
        Figurehouse house = Houses.chain(14);
        Check.is("none agreed", house.mayTell(0, 0), false);
        house.agree(0, 12, true);
        Check.is("right around it", house.mayTell(0, 11), false);
        Check.is("the area", house.mayTell(0, 12), true);
        Check.is("right in it", house.mayTell(0, 13), true);
        Check.is("another sender", house.mayTell(1, 12), false);
        Edges.senderRow(19, (any, sender) -> any.mayTell(sender, 0));
        Edges.areaRow(19, (any, area) -> any.mayTell(0, area));
        Doc.at(19, "Throws `IndexOutOfBoundsException` if there is no such sender or area");
        Edges.noIndex("the sender ahead of the first", Edges::full, any -> any.mayTell(-1, 0));
        Edges.noIndex("the sender behind the last", Edges::full, any -> any.mayTell(4, 13));
        Edges.noIndex("the area behind the last", Edges::full, any -> any.mayTell(3, 14));
        Edges.noIndex("NONE", Edges::full, any -> any.mayTell(0, NONE));
        Edges.noIndex("no areas", Figurehouse::new, any -> any.mayTell(0, 0));
    }
}
