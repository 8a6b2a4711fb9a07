/** Checks of the ends of a range, and of calls that are refused: these must leave the house as it was. */
final class Edges {
    private static final int ADD = Figurehouse.ADD;
    private static final int REPLACE = Figurehouse.REPLACE;
    private static final int DELETE = Figurehouse.DELETE;

    /** Makes the same house each time. */
    interface Maker {
        Figurehouse make();
    }

    /** A call on a house. */
    interface Call {
        void on(Figurehouse house);
    }

    /** A call with one parameter left open. */
    interface OpenCall {
        void on(Figurehouse house, int argument);
    }

    /** A call on a cell. */
    interface CellCall {
        void on(Figurehouse house, int area, int item, int period);
    }

    private Edges() {
    }

    /** Areas 0 to 2, items 0 to 2, day 3, two messages, a secret cell and a draft of two lines. */
    static Figurehouse some() {
        Figurehouse house = Houses.stars(2, 2);
        house.agree(2, 1, true);
        house.put(ADD, 1, 1, 0, 5);
        house.put(ADD, 1, 2, 0, -7);
        house.put(ADD, 2, 0, 0, 4);
        house.put(ADD, 0, 0, 0, 3);
        house.put(ADD, 0, 0, 11, 1);
        house.send(0);
        house.pass(3);
        house.put(REPLACE, 1, 1, 0, 5);
        house.put(REPLACE, 1, 1, 0, 6);
        house.send(0);
        house.secret(1, 1, 0, true);
        house.put(ADD, 1, 0, 11, 8);
        house.put(DELETE, 1, 2, 0, 0);
        return house;
    }

    /** Areas 0 to 13, items 0 to 9, day 1000, and a draft of 15 lines. */
    static Figurehouse full() {
        Figurehouse house = Houses.stars(13, 9);
        house.agree(3, 13, true);
        house.put(ADD, 13, 9, 11, 5);
        house.put(ADD, 1, 1, 0, -5);
        house.send(0);
        for (int hundred = 0; hundred < 10; hundred++) {
            house.pass(100);
        }
        house.secret(13, 9, 11, true);
        for (int line = 0; line < 15; line++) {
            house.put(line < 2 ? ADD : REPLACE, 13, line % 2, 11, line);
        }
        return house;
    }

    static Figurehouse fullDraft() {
        Figurehouse house = full();
        house.put(DELETE, 1, 1, 0, 0);
        return house;
    }

    static Figurehouse areasAlone() {
        return Houses.flat(1, 0);
    }

    static Figurehouse itemsAlone() {
        return Houses.flat(0, 1);
    }

    static void allowed(String what, Maker maker, Call call) {
        try {
            call.on(maker.make());
            Check.is(what, true, true);
        } catch (RuntimeException thrown) {
            Check.is(what, thrown.toString(), "no exception");
        }
    }

    static void refused(String what, Maker maker, Class<? extends RuntimeException> due, Call call) {
        Figurehouse called = maker.make();
        Check.fails(what, due, () -> call.on(called));
        Check.is(what + " changes nothing", Answers.of(called), Answers.of(maker.make()));
    }

    static void noIndex(String what, Maker maker, Call call) {
        refused(what, maker, IndexOutOfBoundsException.class, call);
    }

    static void noArgument(String what, Maker maker, Call call) {
        refused(what, maker, IllegalArgumentException.class, call);
    }

    static void noState(String what, Maker maker, Call call) {
        refused(what, maker, IllegalStateException.class, call);
    }

    /** Both ends are allowed; what lies right outside them, and farthest outside, is refused. */
    static void range(Maker maker, int least, int most, Class<? extends RuntimeException> due, OpenCall call) {
        allowed("the least, " + least, maker, house -> call.on(house, least));
        allowed("the most, " + most, maker, house -> call.on(house, most));
        refused("below the least", maker, due, house -> call.on(house, least - 1));
        refused("the least of all", maker, due, house -> call.on(house, Integer.MIN_VALUE));
        if (most < Integer.MAX_VALUE) {
            refused("above the most", maker, due, house -> call.on(house, most + 1));
            refused("the most of all", maker, due, house -> call.on(house, Integer.MAX_VALUE));
        }
    }

    static void indexRange(Maker maker, int least, int most, OpenCall call) {
        range(maker, least, most, IndexOutOfBoundsException.class, call);
    }

    static void argumentRange(Maker maker, int least, int most, OpenCall call) {
        range(maker, least, most, IllegalArgumentException.class, call);
    }

    static void senderRow(int promise, OpenCall call) {
        Doc.at(promise, "`sender`: 0 to 3");
        indexRange(Edges::some, 0, 3, call);
        indexRange(Edges::full, 0, 3, call);
    }

    static void areaRow(int promise, OpenCall call) {
        Doc.at(promise, "`area`: the number of an area");
        indexRange(Edges::some, 0, 2, call);
        indexRange(Edges::full, 0, 13, call);
        noIndex("no area yet", Figurehouse::new, house -> call.on(house, 0));
    }

    /** The rows of the three parameters that tell a cell, and the throws clause that is of them. */
    static void cellRows(int promise, CellCall call) {
        Doc.at(promise, "`area`: the number of an area");
        indexRange(Edges::some, 0, 2, (house, area) -> call.on(house, area, 0, 0));
        indexRange(Edges::full, 0, 13, (house, area) -> call.on(house, area, 9, 11));
        Doc.at(promise, "`item`: the number of an item");
        indexRange(Edges::some, 0, 2, (house, item) -> call.on(house, 0, item, 0));
        indexRange(Edges::full, 0, 9, (house, item) -> call.on(house, 13, item, 11));
        Doc.at(promise, "`period`: 0 to 11");
        indexRange(Edges::some, 0, 11, (house, period) -> call.on(house, 0, 0, period));
        indexRange(Edges::full, 0, 11, (house, period) -> call.on(house, 13, 9, period));
        Doc.at(promise, "Throws `IndexOutOfBoundsException` if there is no such area, item or period");
        noIndex("neither areas nor items", Figurehouse::new, house -> call.on(house, 0, 0, 0));
        noIndex("no items", Edges::areasAlone, house -> call.on(house, 0, 0, 0));
        noIndex("no areas", Edges::itemsAlone, house -> call.on(house, 0, 0, 0));
        noIndex("an item as an area", Edges::full, house -> call.on(house, 14, 9, 11));
        noIndex("an area as an item", Edges::full, house -> call.on(house, 13, 10, 11));
        noIndex("the period behind the last", Edges::full, house -> call.on(house, 13, 9, 12));
        noIndex("none of the three", Edges::full, house -> call.on(house, -1, -1, -1));
    }
}
