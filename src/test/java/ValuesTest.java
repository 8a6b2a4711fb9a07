/** Promises 10 to 15: pass, figure, value, first, revisions, hasFault. */
public final class ValuesTest {
    private static final int NONE = Figurehouse.NONE;
    private static final int MISSING = Figurehouse.MISSING;

    public static void main(String[] args) {
        passes();
        knowsFiguresOfDays();
        sumsAreas();
        sumsItems();
        prefersAreas();
        sumsFarther();
        sumsOfDays();
        sumsLargest();
        takesUpAreasLater();
        knowsTheFirst();
        countsRevisions();
        findsFaultsOfAreas();
        findsFaultsOfItems();
        findsFaultsBehindSums();
        Check.end("ValuesTest");
    }

    private static void passes() {
        Figurehouse house = Houses.flat(1, 1);
        Check.is("10: a day", house.pass(1), 1);
        Check.is("10: a hundred", house.pass(100), 101);
        for (int hundred = 2; hundred < 10; hundred++) {
            Check.is("10: on", house.pass(100), 100 * hundred + 1);
        }
        Check.noState("10: 1001", () -> house.pass(100));
        Check.is("10: a thousand", house.pass(99), 1000);
        Check.noState("10: one more", () -> house.pass(1));
        Check.noArgument("10: the argument comes first", () -> house.pass(101));
        Check.noArgument("10: the argument comes first, 0", () -> house.pass(0));
        Houses.add(house, 0, 0, 0, 3);
        Check.is("10: told on the last day", house.figure(0, 0, 0, 1000), 3);
        Check.is("10: not on the day before", house.figure(0, 0, 0, 999), MISSING);
    }

    private static void knowsFiguresOfDays() {
        Figurehouse house = Houses.flat(1, 1);
        house.pass(2);
        Houses.add(house, 0, 0, 3, 10);
        house.pass(1);
        Houses.replace(house, 0, 0, 3, 20);
        Houses.replace(house, 0, 0, 3, 30);
        house.pass(1);
        Houses.delete(house, 0, 0, 3);
        house.pass(1);
        Houses.add(house, 0, 0, 3, -40);
        house.pass(1);
        int[] due = {MISSING, MISSING, 10, 30, MISSING, -40, -40};
        for (int day = 0; day < due.length; day++) {
            Check.is("11: day " + day, house.figure(0, 0, 3, day), due[day]);
            Check.is("12: day " + day, house.value(0, 0, 3, day), due[day]);
        }
        Check.is("11: another period", house.figure(0, 0, 2, 6), MISSING);
    }

    private static void sumsAreas() {
        Figurehouse house = Houses.stars(3, 0);
        Houses.add(house, 1, 0, 4, 100);
        Houses.add(house, 2, 0, 4, -30);
        Check.is("12: one area is without", house.value(0, 0, 4, 0), MISSING);
        Houses.add(house, 3, 0, 4, 0);
        Check.is("12: the sum of areas", house.value(0, 0, 4, 0), 70);
        Check.is("11: a sum is no figure", house.figure(0, 0, 4, 0), MISSING);
        Check.is("12: of no other period", house.value(0, 0, 5, 0), MISSING);
        Houses.add(house, 0, 0, 4, 1);
        Check.is("12: a figure goes ahead of the sum", house.value(0, 0, 4, 0), 1);
        Houses.delete(house, 0, 0, 4);
        Check.is("12: the sum again", house.value(0, 0, 4, 0), 70);
    }

    private static void sumsItems() {
        Figurehouse house = Houses.stars(0, 2);
        Houses.add(house, 0, 1, 4, 100);
        Check.is("12: one item is without", house.value(0, 0, 4, 0), MISSING);
        Houses.add(house, 0, 2, 4, -30);
        Check.is("12: the sum of items", house.value(0, 0, 4, 0), 70);
        Houses.add(house, 0, 0, 4, 1);
        Check.is("12: a figure goes ahead of the sum of items", house.value(0, 0, 4, 0), 1);
    }

    private static void prefersAreas() {
        Figurehouse house = Houses.stars(2, 2);
        Houses.add(house, 0, 1, 0, 5);
        Houses.add(house, 0, 2, 0, 6);
        Houses.add(house, 1, 0, 0, 70);
        Check.is("12: items, as an area is without", house.value(0, 0, 0, 0), 11);
        Houses.add(house, 2, 0, 0, 80);
        Check.is("12: areas go ahead of items", house.value(0, 0, 0, 0), 150);
    }

    private static void sumsFarther() {
        Figurehouse house = new Figurehouse();
        house.area(NONE);
        house.area(0);
        house.area(0);
        house.area(2);
        house.area(2);
        house.item(NONE);
        house.item(0);
        house.item(1);
        house.agree(0, 0, true);
        Houses.add(house, 1, 2, 0, 1);
        Houses.add(house, 3, 1, 0, 10);
        Houses.add(house, 4, 0, 0, 100);
        Check.is("12: by items twice", house.value(1, 0, 0, 0), 1);
        Check.is("12: by areas, then items", house.value(2, 0, 0, 0), 110);
        Check.is("12: by all", house.value(0, 0, 0, 0), 111);
        Check.is("12: item 1 is not everywhere", house.value(0, 1, 0, 0), MISSING);
        Houses.add(house, 4, 2, 0, 7);
        Check.is("12: item 1 is by items there", house.value(4, 1, 0, 0), 7);
        Check.is("12: item 1 is now everywhere", house.value(0, 1, 0, 0), 18);
        Check.is("12: the figure stays ahead", house.value(0, 0, 0, 0), 111);
    }

    private static void sumsOfDays() {
        Figurehouse house = Houses.stars(2, 0);
        Houses.add(house, 1, 0, 0, 1);
        house.pass(1);
        Houses.add(house, 2, 0, 0, 2);
        house.pass(1);
        Houses.replace(house, 1, 0, 0, 5);
        house.pass(1);
        Houses.add(house, 0, 0, 0, 50);
        house.pass(1);
        Houses.delete(house, 0, 0, 0);
        Houses.delete(house, 2, 0, 0);
        int[] due = {MISSING, 3, 7, 50, MISSING};
        for (int day = 0; day < due.length; day++) {
            Check.is("12: sums, day " + day, house.value(0, 0, 0, day), due[day]);
        }
    }

    private static void sumsLargest() {
        Figurehouse house = Houses.stars(13, 9);
        for (int area = 1; area < 14; area++) {
            for (int item = 1; item < 10; item++) {
                house.put(Figurehouse.ADD, area, item, 11, -1000000);
            }
            house.send(0);
        }
        Check.is("12: the farthest sum", house.value(0, 0, 11, 0), -117000000);
        Check.is("12: of an area", house.value(13, 0, 11, 0), -9000000);
        Check.is("12: of an item", house.value(0, 9, 11, 0), -13000000);
    }

    private static void takesUpAreasLater() {
        Figurehouse house = Houses.stars(1, 1);
        Houses.add(house, 1, 0, 0, 4);
        Houses.add(house, 0, 1, 1, 6);
        house.pass(1);
        Check.is("12: of one area", house.value(0, 0, 0, 0), 4);
        Check.is("12: of one item", house.value(0, 0, 1, 0), 6);
        house.area(0);
        house.item(0);
        Check.is("12: the areas that are there now count", house.value(0, 0, 0, 0), MISSING);
        Check.is("12: the items that are there now count", house.value(0, 0, 1, 0), MISSING);
    }

    private static void knowsTheFirst() {
        Figurehouse house = Houses.stars(1, 0);
        Houses.replace(house, 1, 0, 0, 3);
        Check.is("13: what was refused does not count", house.first(1, 0, 0), MISSING);
        Houses.add(house, 1, 0, 0, 5);
        Check.is("13: the first", house.first(1, 0, 0), 5);
        Houses.replace(house, 1, 0, 0, 6);
        house.pass(1);
        Check.is("13: behind another", house.first(1, 0, 0), 5);
        Houses.delete(house, 1, 0, 0);
        Check.is("13: behind none", house.first(1, 0, 0), 5);
        Houses.add(house, 1, 0, 0, 7);
        Check.is("13: behind it was added again", house.first(1, 0, 0), 5);
        Check.is("13: a sum is none", house.first(0, 0, 0), MISSING);
    }

    private static void countsRevisions() {
        Figurehouse house = Houses.stars(1, 0);
        Houses.add(house, 1, 0, 0, 5);
        Check.is("14: added", house.revisions(1, 0, 0), 1);
        Houses.replace(house, 1, 0, 0, 6);
        Houses.replace(house, 1, 0, 0, 6);
        Check.is("14: replaced once", house.revisions(1, 0, 0), 2);
        Houses.delete(house, 1, 0, 0);
        Houses.delete(house, 1, 0, 0);
        Check.is("14: deleted once", house.revisions(1, 0, 0), 3);
        Houses.add(house, 1, 0, 0, 5);
        Check.is("14: added again", house.revisions(1, 0, 0), 4);
        Check.is("14: of no sum", house.revisions(0, 0, 0), 0);
        Check.is("14: of no other period", house.revisions(1, 0, 1), 0);
    }

    private static void findsFaultsOfAreas() {
        Figurehouse house = Houses.stars(2, 0);
        Houses.add(house, 1, 0, 0, 5);
        Houses.add(house, 0, 0, 0, 9);
        Check.is("15: one area is without", house.hasFault(0, 0, 0), false);
        Houses.add(house, 2, 0, 0, 3);
        Check.is("15: another sum", house.hasFault(0, 0, 0), true);
        Check.is("15: nothing lies in it", house.hasFault(1, 0, 0), false);
        Houses.replace(house, 2, 0, 0, 4);
        Check.is("15: the same sum", house.hasFault(0, 0, 0), false);
        Houses.replace(house, 0, 0, 0, 8);
        Check.is("15: another figure", house.hasFault(0, 0, 0), true);
        Houses.delete(house, 0, 0, 0);
        Check.is("15: no figure", house.hasFault(0, 0, 0), false);
        Check.is("15: another period", house.hasFault(0, 0, 1), false);
    }

    private static void findsFaultsOfItems() {
        Figurehouse house = Houses.stars(1, 2);
        Houses.add(house, 0, 1, 0, 5);
        Houses.add(house, 0, 0, 0, 9);
        Check.is("15: one item is without", house.hasFault(0, 0, 0), false);
        Houses.add(house, 0, 2, 0, 3);
        Check.is("15: another sum of items", house.hasFault(0, 0, 0), true);
        Houses.add(house, 1, 0, 0, 9);
        Check.is("15: another sum of items, the same of areas", house.hasFault(0, 0, 0), true);
        Houses.replace(house, 0, 2, 0, 4);
        Check.is("15: the same of both", house.hasFault(0, 0, 0), false);
        Houses.replace(house, 1, 0, 0, 8);
        Check.is("15: the same sum of items, another of areas", house.hasFault(0, 0, 0), true);
    }

    private static void findsFaultsBehindSums() {
        Figurehouse house = new Figurehouse();
        house.area(NONE);
        house.area(0);
        house.area(1);
        house.item(NONE);
        house.agree(0, 0, true);
        Houses.add(house, 2, 0, 0, 0);
        Houses.add(house, 0, 0, 0, 1);
        Check.is("15: against a value by sums", house.hasFault(0, 0, 0), true);
        Houses.add(house, 1, 0, 0, 1);
        Check.is("15: the figure right in it counts", house.hasFault(0, 0, 0), false);
        Check.is("15: that one is at fault", house.hasFault(1, 0, 0), true);
        house.pass(1);
        Check.is("15: also on another day", house.hasFault(1, 0, 0), true);
        Houses.replace(house, 2, 0, 0, 1);
        Check.is("15: today counts", house.hasFault(1, 0, 0), false);
    }
}
