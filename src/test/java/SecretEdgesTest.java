/** The boundary cases that the document names of secrets, sentence by sentence, and its constants. */
public final class SecretEdgesTest {
    private static final int NONE = Figurehouse.NONE;
    private static final int MISSING = Figurehouse.MISSING;
    private static final int HIDDEN = Figurehouse.HIDDEN;
    private static final int ADD = Figurehouse.ADD;
    private static final int REPLACE = Figurehouse.REPLACE;
    private static final int DELETE = Figurehouse.DELETE;

    public static void main(String[] args) {
        secretsAreToldAndTakenBack();
        hidesSecretsWithValues();
        rowsNeedAllValues();
        hidesAnotherOfJustOne();
        hidesTheNearest();
        hidesTheFirstWithoutAnother();
        goesFromLowAreasToHigh();
        goesFromLowItemsToHigh();
        goesByAreasAheadOfItems();
        goesByAllAreasAheadOfItems();
        goesThroughAllBeforeAgain();
        goesOnUntilNoMore();
        goesOnFartherThanAChain();
        namesConstants();
        Doc.end("SecretEdgesTest", "Secrets");
    }

    private static void secretsAreToldAndTakenBack() {
        Doc.at("Secrets", "A cell may be told to be secret");
        Figurehouse house = Houses.flat(1, 1);
        Houses.add(house, 0, 0, 0, 1);
        Check.is("not told", house.shown(0, 0, 0), 1);
        house.secret(0, 0, 0, true);
        house.secret(0, 0, 0, true);
        Check.is("told twice", house.shown(0, 0, 0), HIDDEN);
        house.secret(0, 0, 0, false);
        Check.is("taken back once", house.shown(0, 0, 0), 1);
        Check.is("taken back again", house.secret(0, 0, 0, false), 0);
    }

    private static void hidesSecretsWithValues() {
        Doc.at("Secrets", "those cells are hidden at first that are secret and have a value today");
        Figurehouse house = Houses.flat(1, 1);
        Check.is("no value", house.secret(0, 0, 0, true), 0);
        house.pass(1);
        Houses.add(house, 0, 0, 0, 0);
        Check.is("a value of 0 today", house.hidden(0), 1);
        house.pass(1);
        Houses.delete(house, 0, 0, 0);
        Check.is("a value on the day ahead", house.hidden(0), 0);
        Figurehouse sums = Houses.stars(2, 0);
        sums.secret(0, 0, 0, true);
        Houses.add(sums, 1, 0, 0, 1);
        Check.is("a sum that is not whole", sums.hidden(0), 0);
        Houses.add(sums, 2, 0, 0, 1);
        Check.is("a value by a sum, and another of its row", sums.hidden(0), 2);
    }

    private static void rowsNeedAllValues() {
        Doc.at("Secrets", "A row is a cell with the cells of all areas that lie right in its area, if there are any");
        Figurehouse alone = Houses.flat(2, 2);
        Houses.add(alone, 0, 0, 0, 1);
        Houses.add(alone, 1, 0, 0, 1);
        Check.is("nothing lies in it: no row", alone.secret(0, 0, 0, true), 1);
        Figurehouse areas = Houses.stars(2, 0);
        Houses.add(areas, 0, 0, 0, 9);
        Houses.add(areas, 1, 0, 0, 1);
        Check.is("an area without: no row, for the part", areas.secret(1, 0, 0, true), 1);
        areas.secret(1, 0, 0, false);
        Check.is("an area without: no row, for the sum", areas.secret(0, 0, 0, true), 1);
        Houses.add(areas, 2, 0, 0, 1);
        Check.is("all have values: a row", areas.hidden(0), 2);
        Figurehouse items = Houses.stars(0, 2);
        Houses.add(items, 0, 0, 0, 9);
        Houses.add(items, 0, 1, 0, 1);
        Check.is("an item without: no row", items.secret(0, 1, 0, true), 1);
        Houses.add(items, 0, 2, 0, 1);
        Check.is("all items have values: a row", items.hidden(0), 2);
    }

    private static Figurehouse star(int... values) {
        Figurehouse house = Houses.stars(values.length, 0);
        for (int area = 1; area <= values.length; area++) {
            Houses.add(house, area, 0, 0, values[area - 1]);
        }
        return house;
    }

    private static void hidesAnotherOfJustOne() {
        Doc.at("Secrets", "if just one cell of a row is hidden, another one of it is hidden, too");
        Figurehouse house = star(1, 2, 3, 4);
        Check.is("none hidden", house.hidden(0), 0);
        Check.is("one hidden", house.secret(4, 0, 0, true), 2);
        Check.is("two hidden", house.secret(3, 0, 0, true), 2);
        Check.is("with the first one, three", house.secret(0, 0, 0, true), 3);
        house.secret(3, 0, 0, false);
        Check.is("the first one and another", house.secret(4, 0, 0, true), 2);
        Check.is("no more is hidden", house.shown(1, 0, 0), 1);
    }

    private static void hidesTheNearest() {
        Doc.at("Secrets", "with the value nearest to 0, on either side, of several that of the lowest area, or item");
        int[][] values = {{8, 5, -5, 5}, {8, -5, 5, 5}, {8, 6, -5, 9}, {8, -1, 0, 1}, {8, -1000000, 999999, 1000000}};
        int[] due = {2, 2, 3, 3, 3};
        for (int star = 0; star < values.length; star++) {
            Figurehouse house = star(values[star]);
            house.secret(1, 0, 0, true);
            Figurehouse items = Houses.stars(0, 4);
            for (int item = 1; item <= 4; item++) {
                Houses.add(items, 0, item, 0, values[star][item - 1]);
            }
            items.secret(0, 1, 0, true);
            for (int part = 2; part <= 4; part++) {
                int shown = part == due[star] ? HIDDEN : values[star][part - 1];
                Check.is("star " + star + ", area " + part, house.shown(part, 0, 0), shown);
                Check.is("star " + star + ", item " + part, items.shown(0, part, 0), shown);
            }
        }
    }

    private static void hidesTheFirstWithoutAnother() {
        Doc.at("Secrets", "if there is none, the first one");
        Figurehouse one = star(5);
        Check.is("the only area in it", one.secret(1, 0, 0, true), 2);
        Check.is("the sum", one.shown(0, 0, 0), HIDDEN);
        Figurehouse two = star(5, -5);
        Check.is("there is another", two.secret(1, 0, 0, true), 2);
        Check.is("the sum of 0 is not the nearest", two.shown(0, 0, 0), 0);
        Figurehouse item = Houses.stars(0, 1);
        Houses.add(item, 0, 1, 0, 5);
        item.secret(0, 1, 0, true);
        Check.is("the sum of the only item in it", item.shown(0, 0, 0), HIDDEN);
    }

    /** Area 1 holds two parts; its row must find it hidden already by the row of area 0, and hide no more. */
    private static void goesFromLowAreasToHigh() {
        Doc.at("Secrets", "Then all rows are gone through, those by areas first, by areas, then items");
        Figurehouse house = Houses.stars(2, 0);
        house.area(1);
        house.area(1);
        Houses.add(house, 3, 0, 0, 1);
        Houses.add(house, 4, 0, 0, 2);
        Houses.add(house, 2, 0, 0, 50);
        house.secret(3, 0, 0, true);
        Check.is("the row of area 0 goes ahead", house.secret(0, 0, 0, true), 3);
        Check.is("it hides area 1", house.shown(1, 0, 0), HIDDEN);
        Check.is("so that area 4 is shown", house.shown(4, 0, 0), 2);
    }

    private static void goesFromLowItemsToHigh() {
        Doc.at("Secrets", "and then those by items, likewise by areas, then items");
        Figurehouse house = Houses.stars(0, 2);
        house.item(1);
        house.item(1);
        Houses.add(house, 0, 3, 0, 1);
        Houses.add(house, 0, 4, 0, 2);
        Houses.add(house, 0, 2, 0, 50);
        house.secret(0, 3, 0, true);
        Check.is("the row of item 0 goes ahead", house.secret(0, 0, 0, true), 3);
        Check.is("it hides item 1", house.shown(0, 1, 0), HIDDEN);
        Check.is("so that item 4 is shown", house.shown(0, 4, 0), 2);
    }

    /** Cell (1, 0) is in a row of each kind: hidden by that of areas, it leaves that of items with two. */
    private static void goesByAreasAheadOfItems() {
        Doc.at("Secrets", "those by areas first");
        Figurehouse house = Houses.stars(2, 2);
        Houses.add(house, 1, 1, 0, 1);
        Houses.add(house, 1, 2, 0, 2);
        Houses.add(house, 2, 0, 0, 50);
        house.secret(1, 1, 0, true);
        Check.is("the row by areas goes ahead", house.secret(0, 0, 0, true), 3);
        Check.is("it hides (1, 0)", house.shown(1, 0, 0), HIDDEN);
        Check.is("so that (1, 2) is shown", house.shown(1, 2, 0), 2);
    }

    /** The row by areas is that of (0, 2), which comes behind (0, 0), whose row is by items. */
    private static void goesByAllAreasAheadOfItems() {
        Doc.at("Secrets", "those by areas first");
        Figurehouse house = Houses.stars(1, 3);
        Houses.add(house, 1, 2, 0, 5);
        Houses.add(house, 0, 1, 0, 7);
        Houses.add(house, 0, 3, 0, 1);
        house.secret(1, 2, 0, true);
        Check.is("all rows by areas go ahead", house.secret(0, 1, 0, true), 3);
        Check.is("the one hides (0, 2)", house.shown(0, 2, 0), HIDDEN);
        Check.is("so that (0, 3) is shown", house.shown(0, 3, 0), 1);
    }

    /** Area 1 is hidden by its own row, behind that of area 0, which is looked at again behind those by items. */
    private static void goesThroughAllBeforeAgain() {
        Doc.at("Secrets", "That is done again and again");
        Figurehouse house = Houses.stars(2, 1);
        house.area(1);
        Houses.add(house, 3, 0, 0, 5);
        Houses.add(house, 2, 0, 0, 9);
        Houses.add(house, 0, 1, 0, 14);
        house.secret(3, 0, 0, true);
        Check.is("the row by items goes ahead of the second round", house.secret(0, 1, 0, true), 4);
        Check.is("it hides (0, 0)", house.shown(0, 0, 0), HIDDEN);
        Check.is("so that (2, 0) is shown", house.shown(2, 0, 0), 9);
    }

    private static void goesOnUntilNoMore() {
        Doc.at("Secrets", "That is done again and again, until it hides no more");
        Figurehouse house = Houses.chain(14);
        house.agree(0, 0, true);
        Houses.add(house, 13, 0, 0, 5);
        Check.is("14, one a round", house.secret(13, 0, 0, true), 14);
        Check.is("the farthest", house.shown(0, 0, 0), HIDDEN);
        house.secret(13, 0, 0, false);
        Check.is("14, all in one round", house.secret(0, 0, 0, true), 14);
        house.secret(0, 0, 0, false);
        Check.is("none", house.hidden(0), 0);
    }

    /**
     * 17 rounds: in area 13 items 5, 4 and 3 are hidden one a round, then item 6, and from there on area by area up
     * to area 0; in area 12 it is item 9 that is the nearest, and area 13 has it by its row.
     */
    private static void goesOnFartherThanAChain() {
        Doc.at("Secrets", "That is done again and again, until it hides no more");
        Figurehouse house = Houses.chain(14);
        for (int in : new int[] {0, 1, 1, 3, 4, 1, 5, 7, 1}) {
            house.item(in);
        }
        house.agree(0, 0, true);
        Houses.add(house, 13, 2, 0, 3);
        Houses.add(house, 12, 6, 0, 6);
        Houses.add(house, 13, 8, 0, 1);
        Houses.add(house, 13, 9, 0, 1);
        Houses.add(house, 13, 6, 0, 1);
        Check.is("items 3 to 9 of all areas", house.secret(13, 7, 0, true), 98);
        for (int area = 0; area < 14; area++) {
            Check.is("item 0", house.shown(area, 0, 0), 6);
            Check.is("item 1", house.shown(area, 1, 0), 6);
            Check.is("item 2", house.shown(area, 2, 0), 3);
            for (int item = 3; item < 10; item++) {
                Check.is("item " + item, house.shown(area, item, 0), HIDDEN);
            }
        }
    }

    private static void namesConstants() {
        Doc.at("Secrets", "The constants: `NONE = -1`: None.");
        Check.is("NONE", NONE, -1);
        Doc.at("Secrets", "`MISSING = -2000000001, HIDDEN = -2000000002`: No value; a value that is hidden.");
        Check.is("MISSING", MISSING, -2000000001);
        Check.is("HIDDEN", HIDDEN, -2000000002);
        Doc.at("Secrets", "`ADD = 0, REPLACE = 1, DELETE = 2`: What a line does.");
        Check.is("ADD", ADD, 0);
        Check.is("REPLACE", REPLACE, 1);
        Check.is("DELETE", DELETE, 2);
    }
}
