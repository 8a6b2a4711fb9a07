/** Promises 9, 16 and 17: secret, shown, hidden. */
public final class SecretsTest {
    private static final int NONE = Figurehouse.NONE;
    private static final int MISSING = Figurehouse.MISSING;
    private static final int HIDDEN = Figurehouse.HIDDEN;

    public static void main(String[] args) {
        hidesAlone();
        hidesWhatHasAValueToday();
        hidesTheNearestToZero();
        hidesTheLowestOfSeveral();
        hidesForTheSum();
        hidesTheSum();
        keepsTwoHidden();
        leavesRowsWithoutValues();
        hidesByItems();
        goesByAreasFirst();
        goesByItemsBehindAreas();
        goesRoundAgain();
        keepsToThePeriod();
        takesBack();
        Check.end("SecretsTest");
    }

    private static void hidesAlone() {
        Figurehouse house = Houses.flat(2, 2);
        Check.is("9: without a value", house.secret(1, 1, 11, true), 0);
        Check.is("16: without a value", house.shown(1, 1, 11), MISSING);
        Houses.add(house, 1, 1, 11, 0);
        Check.is("17: with a value", house.hidden(11), 1);
        Check.is("16: with a value", house.shown(1, 1, 11), HIDDEN);
        Houses.add(house, 0, 1, 11, -8);
        Check.is("16: another is shown", house.shown(0, 1, 11), -8);
        Check.is("9: told again", house.secret(1, 1, 11, true), 1);
        Check.is("9: another", house.secret(0, 1, 11, true), 2);
        Check.is("9: not the first any more", house.secret(1, 1, 11, false), 1);
        Check.is("16: it is shown", house.shown(1, 1, 11), 0);
        Check.is("12: a hidden value is a value", house.value(0, 1, 11, 0), -8);
    }

    private static void hidesWhatHasAValueToday() {
        Figurehouse house = Houses.flat(1, 1);
        Houses.add(house, 0, 0, 0, 3);
        house.secret(0, 0, 0, true);
        house.pass(1);
        Check.is("17: still", house.hidden(0), 1);
        Houses.delete(house, 0, 0, 0);
        Check.is("17: no value today", house.hidden(0), 0);
        Check.is("16: no value today", house.shown(0, 0, 0), MISSING);
        Houses.add(house, 0, 0, 0, 3);
        Check.is("17: it stays secret", house.hidden(0), 1);
    }

    private static Figurehouse star(int... values) {
        Figurehouse house = Houses.stars(values.length, 0);
        for (int area = 1; area <= values.length; area++) {
            Houses.add(house, area, 0, 0, values[area - 1]);
        }
        return house;
    }

    private static void hidesTheNearestToZero() {
        Figurehouse house = star(50, -9, 10, 3);
        Check.is("9: two of the row", house.secret(4, 0, 0, true), 2);
        Check.is("16: -9 is the nearest", house.shown(2, 0, 0), HIDDEN);
        Check.is("16: 10 is not", house.shown(3, 0, 0), 10);
        Check.is("16: the sum is shown", house.shown(0, 0, 0), 54);
        Figurehouse other = star(-50, 9, -10, 3);
        other.secret(4, 0, 0, true);
        Check.is("16: 9 is the nearest", other.shown(2, 0, 0), HIDDEN);
        Figurehouse zero = star(1, -1, 0, 70);
        zero.secret(4, 0, 0, true);
        Check.is("16: 0 is the nearest", zero.shown(3, 0, 0), HIDDEN);
        Check.is("16: not the sum, even if it were", star(5, -5).secret(1, 0, 0, true), 2);
    }

    private static void hidesTheLowestOfSeveral() {
        Figurehouse house = star(9, -7, 7, 7);
        Check.is("9: two", house.secret(1, 0, 0, true), 2);
        Check.is("16: the lowest", house.shown(2, 0, 0), HIDDEN);
        Check.is("16: not a higher one", house.shown(3, 0, 0), 7);
        house.secret(1, 0, 0, false);
        house.secret(2, 0, 0, true);
        Check.is("16: the lowest of the others", house.shown(3, 0, 0), HIDDEN);
        Check.is("16: not the highest", house.shown(4, 0, 0), 7);
    }

    private static void hidesForTheSum() {
        Figurehouse house = star(9, -2, 6);
        Check.is("9: the sum is secret", house.secret(0, 0, 0, true), 2);
        Check.is("16: the sum is hidden", house.shown(0, 0, 0), HIDDEN);
        Check.is("16: the nearest is hidden", house.shown(2, 0, 0), HIDDEN);
        Check.is("16: the first is not", house.shown(1, 0, 0), 9);
        Houses.add(house, 0, 0, 0, 500);
        Check.is("17: a told sum likewise", house.hidden(0), 2);
    }

    private static void hidesTheSum() {
        Figurehouse house = star(9);
        Check.is("9: the only one in it", house.secret(1, 0, 0, true), 2);
        Check.is("16: the sum is hidden then", house.shown(0, 0, 0), HIDDEN);
        Figurehouse beside = Houses.flat(2, 1);
        Houses.add(beside, beside.area(1), 0, 0, 4);
        Houses.add(beside, 0, 0, 0, 6);
        Check.is("9: the only one in it and its sum", beside.secret(2, 0, 0, true), 2);
        Check.is("16: its own sum is hidden", beside.shown(1, 0, 0), HIDDEN);
        Check.is("16: the one beside is not", beside.shown(0, 0, 0), 6);
        Figurehouse items = Houses.stars(0, 1);
        Houses.add(items, 0, 1, 7, 2);
        Check.is("9: the only item in it", items.secret(0, 1, 7, true), 2);
        Check.is("16: the sum of the item is hidden", items.shown(0, 0, 7), HIDDEN);
        Check.is("9: the sum alone", items.secret(0, 1, 7, false), 0);
        Check.is("9: the sum with its only item", items.secret(0, 0, 7, true), 2);
        Check.is("16: the only item is hidden", items.shown(0, 1, 7), HIDDEN);
    }

    private static void keepsTwoHidden() {
        Figurehouse house = star(1, 2, 3, 4);
        house.secret(3, 0, 0, true);
        Check.is("9: two that are secret hide no more", house.secret(4, 0, 0, true), 2);
        Check.is("16: the first is shown", house.shown(1, 0, 0), 1);
        Check.is("9: three", house.secret(0, 0, 0, true), 3);
    }

    private static void leavesRowsWithoutValues() {
        Figurehouse house = Houses.stars(3, 0);
        Houses.add(house, 0, 0, 0, 10);
        Houses.add(house, 1, 0, 0, 1);
        Houses.add(house, 2, 0, 0, 2);
        Check.is("9: no row, as one is without", house.secret(1, 0, 0, true), 1);
        Check.is("16: the other is shown", house.shown(2, 0, 0), 2);
        Houses.add(house, 3, 0, 0, 3);
        Check.is("17: a row", house.hidden(0), 2);
        Check.is("16: the other is hidden", house.shown(2, 0, 0), HIDDEN);
        house.area(0);
        Check.is("17: a new area is without", house.hidden(0), 1);
    }

    private static void hidesByItems() {
        Figurehouse house = Houses.stars(0, 3);
        Houses.add(house, 0, 1, 2, 8);
        Houses.add(house, 0, 2, 2, -3);
        Houses.add(house, 0, 3, 2, 3);
        Check.is("9: two of the items", house.secret(0, 1, 2, true), 2);
        Check.is("16: the lowest of the nearest", house.shown(0, 2, 2), HIDDEN);
        Check.is("16: not the higher", house.shown(0, 3, 2), 3);
        Check.is("16: not the sum", house.shown(0, 0, 2), 8);
    }

    /** A square of two areas and two items: it takes four to hide one. */
    private static void goesByAreasFirst() {
        Figurehouse house = Houses.stars(2, 2);
        Houses.add(house, 1, 1, 0, 1);
        Houses.add(house, 1, 2, 0, 2);
        Houses.add(house, 2, 1, 0, 3);
        Houses.add(house, 2, 2, 0, 4);
        Check.is("12: all come to ten", house.value(0, 0, 0, 0), 10);
        Check.is("9: the square", house.secret(2, 2, 0, true), 4);
        for (int area = 1; area <= 2; area++) {
            for (int item = 1; item <= 2; item++) {
                Check.is("16: the square", house.shown(area, item, 0), HIDDEN);
            }
        }
        Check.is("16: the sums are shown", house.shown(0, 0, 0), 10);
        Check.is("16: of an area", house.shown(1, 0, 0), 3);
        Check.is("16: of an item", house.shown(0, 2, 0), 6);
    }

    /**
     * Three areas and three items, cell (3, 3) secret: by areas first it takes (1, 3), then the items of
     * areas 1 and 3 take their nearest; the order decides which cells these are.
     */
    private static void goesByItemsBehindAreas() {
        int[][] values = {{9, 5, 6}, {7, 8, 9}, {3, 4, 7}};
        Figurehouse house = Houses.stars(3, 3);
        for (int area = 1; area <= 3; area++) {
            for (int item = 1; item <= 3; item++) {
                Houses.add(house, area, item, 0, values[area - 1][item - 1]);
            }
        }
        house.secret(3, 3, 0, true);
        Check.is("16: by areas, 6 is the nearest of item 3", house.shown(1, 3, 0), HIDDEN);
        Check.is("16: by items, 5 is the nearest of area 1", house.shown(1, 2, 0), HIDDEN);
        Check.is("16: by items, 3 is the nearest of area 3", house.shown(3, 1, 0), HIDDEN);
        Check.is("16: again by areas, 7 of item 1", house.shown(2, 1, 0), HIDDEN);
        Check.is("16: again by areas, 4 of item 2", house.shown(3, 2, 0), HIDDEN);
        Check.is("16: then by items, 8 of area 2", house.shown(2, 2, 0), HIDDEN);
        Check.is("16: 9 of area 1 stays", house.shown(1, 1, 0), 9);
        Check.is("16: 9 of area 2 stays", house.shown(2, 3, 0), 9);
        Check.is("17: seven", house.hidden(0), 7);
    }

    /** A chain: what is hidden in the last row leaves one alone in the row ahead of it. */
    private static void goesRoundAgain() {
        Figurehouse house = new Figurehouse();
        house.item(NONE);
        house.area(NONE);
        for (int area = 0; area < 13; area++) {
            house.area(area);
        }
        house.agree(0, 0, true);
        Houses.add(house, 13, 0, 0, 5);
        Check.is("9: the whole chain from below", house.secret(13, 0, 0, true), 14);
        house.secret(13, 0, 0, false);
        Check.is("9: the whole chain from above", house.secret(0, 0, 0, true), 14);
        house.secret(0, 0, 0, false);
        Check.is("9: the whole chain from the middle", house.secret(6, 0, 0, true), 14);
    }

    private static void keepsToThePeriod() {
        Figurehouse house = star(4, 5);
        Houses.add(house, 1, 0, 1, 4);
        Houses.add(house, 2, 0, 1, 5);
        Check.is("9: of the period of the cell", house.secret(1, 0, 1, true), 2);
        Check.is("17: of no other period", house.hidden(0), 0);
        Check.is("16: of no other period", house.shown(1, 0, 0), 4);
        Check.is("9: counts that period alone", house.secret(1, 0, 2, true), 0);
        Check.is("17: the first has it still", house.hidden(1), 2);
    }

    private static void takesBack() {
        Figurehouse house = star(4, 5);
        Check.is("9: not secret as it was", house.secret(1, 0, 0, false), 0);
        house.secret(1, 0, 0, true);
        Check.is("9: what is hidden besides is not secret", house.secret(2, 0, 0, false), 2);
        Check.is("9: not secret any more", house.secret(1, 0, 0, false), 0);
        Check.is("16: shown again", house.shown(2, 0, 0), 5);
        Check.is("16: the sum of values", house.shown(0, 0, 0), 9);
    }
}
