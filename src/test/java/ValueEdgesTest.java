/** The boundary cases that the document names of values and faults, sentence by sentence. */
public final class ValueEdgesTest {
    private static final int MISSING = Figurehouse.MISSING;
    private static final int ADD = Figurehouse.ADD;

    public static void main(String[] args) {
        valuesByFigure();
        valuesBySums();
        valuesByNothing();
        valuesByTheTreesOfNow();
        faultsNeedAFigureAndParts();
        faultsByOne();
        Doc.end("ValueEdgesTest", "Values");
    }

    private static void valuesByFigure() {
        Doc.at("Values", "The value of a cell on a day is its figure, if it had one");
        Figurehouse house = Houses.stars(1, 1);
        Houses.add(house, 1, 0, 0, 7);
        Houses.add(house, 0, 1, 0, 8);
        Houses.add(house, 0, 0, 0, 0);
        Check.is("0 is a figure, ahead of both sums", house.value(0, 0, 0, 0), 0);
        house.pass(1);
        Houses.delete(house, 0, 0, 0);
        Check.is("it had one on that day", house.value(0, 0, 0, 0), 0);
        Check.is("it has none today", house.value(0, 0, 0, 1), 7);
    }

    private static void valuesBySums() {
        Doc.at("Values", "if other areas lie right in its area, and the cells of all of these, of its item and period");
        Figurehouse house = Houses.stars(13, 9);
        for (int area = 1; area < 14; area++) {
            house.put(ADD, area, 0, 0, 1000000);
        }
        Check.is("13 areas", house.send(0), 13);
        Check.is("the sum of all areas", house.value(0, 0, 0, 0), 13000000);
        for (int item = 1; item < 10; item++) {
            house.put(ADD, 0, item, 0, -1000000);
        }
        house.send(0);
        Check.is("areas go ahead of items", house.value(0, 0, 0, 0), 13000000);
        Houses.delete(house, 13, 0, 0);
        Check.is("one area without, so the sum of all items", house.value(0, 0, 0, 0), -9000000);
        Check.is("of its period alone", house.value(0, 0, 1, 0), MISSING);
        Figurehouse zero = Houses.stars(2, 0);
        Houses.add(zero, 1, 0, 0, 5);
        Houses.add(zero, 2, 0, 0, -5);
        Check.is("a sum of 0 is a value", zero.value(0, 0, 0, 0), 0);
    }

    private static void valuesByNothing() {
        Doc.at("Values", "have values, the sum of these; otherwise it has none");
        Figurehouse house = Houses.stars(2, 2);
        Check.is("nothing told", house.value(0, 0, 0, 0), MISSING);
        Check.is("nothing lies in it", house.value(2, 2, 0, 0), MISSING);
        Houses.add(house, 1, 0, 0, 5);
        Houses.add(house, 0, 2, 0, 5);
        Check.is("an area and an item without", house.value(0, 0, 0, 0), MISSING);
        Check.is("the sum of what is around is none", house.value(1, 2, 0, 0), MISSING);
        Houses.add(house, 0, 0, 1, 5);
        Check.is("what it lies in does not help", house.value(1, 0, 1, 0), MISSING);
    }

    private static void valuesByTheTreesOfNow() {
        Doc.at("Values", "(Areas and items are those that are there now.)");
        Figurehouse house = Houses.stars(1, 0);
        Houses.add(house, 1, 0, 0, 5);
        house.pass(1);
        Check.is("on the day ahead", house.value(0, 0, 0, 0), 5);
        int later = house.area(0);
        Check.is("with an area that was taken up later", house.value(0, 0, 0, 0), MISSING);
        Houses.add(house, later, 0, 0, 2);
        Check.is("it had no value on that day", house.value(0, 0, 0, 0), MISSING);
        Check.is("it has one today", house.value(0, 0, 0, 1), 7);
        int item = house.item(0);
        Houses.add(house, 1, item, 1, 9);
        Check.is("with an item that was taken up later", house.value(1, 0, 1, 1), 9);
    }

    private static void faultsNeedAFigureAndParts() {
        Doc.at("Values", "A cell has a fault, if it has a figure, and all areas that lie right in its area");
        Figurehouse house = Houses.stars(2, 2);
        Houses.add(house, 0, 0, 0, 9);
        Check.is("no area or item has a value", house.hasFault(0, 0, 0), false);
        Houses.add(house, 1, 0, 0, 1);
        Houses.add(house, 0, 1, 0, 1);
        Check.is("just one of both has", house.hasFault(0, 0, 0), false);
        Check.is("nothing lies in it", house.hasFault(2, 1, 0), false);
        Houses.add(house, 2, 0, 0, 2);
        Check.is("all areas have", house.hasFault(0, 0, 0), true);
        Houses.delete(house, 0, 0, 0);
        Check.is("no figure", house.hasFault(0, 0, 0), false);
        Figurehouse leaf = Houses.flat(2, 2);
        Houses.add(leaf, 1, 1, 0, 9);
        Check.is("a figure, and nothing in it", leaf.hasFault(1, 1, 0), false);
        Houses.add(leaf, 0, 0, 0, 0);
        Check.is("a figure of 0, and nothing in it", leaf.hasFault(0, 0, 0), false);
    }

    private static void faultsByOne() {
        Doc.at("Values", "have values (by figures or sums) with another sum, or all items right in its item do");
        int[] figures = {-1, 0, 1};
        for (int figure : figures) {
            Figurehouse areas = Houses.stars(2, 0);
            Houses.add(areas, 1, 0, 0, 5);
            Houses.add(areas, 2, 0, 0, -5);
            Houses.add(areas, 0, 0, 0, figure);
            Check.is("areas come to 0, not to " + figure, areas.hasFault(0, 0, 0), figure != 0);
            Figurehouse items = Houses.stars(0, 2);
            Houses.add(items, 0, 1, 0, 5);
            Houses.add(items, 0, 2, 0, -5);
            Houses.add(items, 0, 0, 0, figure);
            Check.is("items come to 0, not to " + figure, items.hasFault(0, 0, 0), figure != 0);
        }
        Figurehouse both = Houses.stars(1, 1);
        Houses.add(both, 0, 0, 0, 4);
        Houses.add(both, 1, 1, 0, 4);
        Check.is("both by sums, the same", both.hasFault(0, 0, 0), false);
        Houses.add(both, 1, 0, 0, 3);
        Check.is("items the same, areas another", both.hasFault(0, 0, 0), true);
        Houses.replace(both, 1, 0, 0, 4);
        Houses.add(both, 0, 1, 0, 3);
        Check.is("areas the same, items another", both.hasFault(0, 0, 0), true);
    }
}
