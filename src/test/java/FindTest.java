/** Promise 18: find. */
public final class FindTest {
    private static final int NONE = Figurehouse.NONE;

    public static void main(String[] args) {
        findsInOrder();
        findsByPattern();
        findsSince();
        findsFigures();
        findsEdges();
        Check.end("FindTest");
    }

    private static void finds(String what, Figurehouse house, int area, int item, int from, int to, int since,
            int... due) {
        for (int place = 0; place < due.length; place++) {
            Check.is("18: " + what + ", place " + place, house.find(area, item, from, to, since, place), due[place]);
        }
        Check.is("18: " + what + ", no more", house.find(area, item, from, to, since, due.length), NONE);
        Check.is("18: " + what + ", far on", house.find(area, item, from, to, since, Integer.MAX_VALUE), NONE);
    }

    private static void findsInOrder() {
        Figurehouse house = Houses.flat(3, 3);
        Houses.add(house, 2, 0, 1, 1);
        Houses.add(house, 0, 2, 1, 1);
        Houses.add(house, 0, 1, 1, 1);
        Houses.add(house, 1, 0, 1, 1);
        Houses.add(house, 2, 2, 0, 1);
        finds("by periods, areas, items", house, NONE, NONE, 0, 11, 0, 42, 1001, 1002, 1020, 1040);
        finds("from the second period", house, NONE, NONE, 1, 11, 0, 1001, 1002, 1020, 1040);
        finds("to the first period", house, NONE, NONE, 0, 0, 0, 42);
        finds("behind all", house, NONE, NONE, 2, 11, 0);
    }

    private static void findsByPattern() {
        Figurehouse house = new Figurehouse();
        house.area(NONE);
        house.area(0);
        house.area(1);
        house.area(NONE);
        house.item(NONE);
        house.item(0);
        house.item(1);
        house.item(NONE);
        house.agree(0, 0, true);
        house.agree(0, 3, true);
        for (int area = 0; area < 4; area++) {
            for (int item = 0; item < 4; item++) {
                house.put(Figurehouse.ADD, area, item, 0, 1);
            }
        }
        house.send(0);
        finds("an area alone", house, 3, 0, 0, 11, 0, 60, 61, 62);
        finds("right and farther in", house, 0, 3, 0, 11, 0, 3, 23, 43);
        finds("below", house, 1, 1, 0, 11, 0, 21, 22, 41, 42);
        finds("the farthest in", house, 2, 2, 0, 11, 0, 42);
        finds("any area", house, NONE, 2, 0, 11, 0, 2, 22, 42, 62);
        finds("any item", house, 2, NONE, 0, 11, 0, 40, 41, 42, 43);
    }

    private static void findsSince() {
        Figurehouse house = Houses.flat(3, 1);
        Houses.add(house, 0, 0, 0, 1);
        Houses.add(house, 1, 0, 0, 1);
        house.pass(4);
        Houses.replace(house, 1, 0, 0, 2);
        Houses.replace(house, 0, 0, 0, 1);
        house.pass(1);
        Houses.add(house, 2, 0, 0, 1);
        Houses.add(house, 0, 0, 0, 1);
        finds("since the first day", house, NONE, NONE, 0, 11, 0, 0, 20, 40);
        finds("behind the first day", house, NONE, NONE, 0, 11, 1, 20, 40);
        finds("since the day itself", house, NONE, NONE, 0, 11, 4, 20, 40);
        finds("since today", house, NONE, NONE, 0, 11, 5, 40);
        finds("since tomorrow", house, NONE, NONE, 0, 11, 6);
        finds("since the last day", house, NONE, NONE, 0, 11, 1000);
    }

    private static void findsFigures() {
        Figurehouse house = Houses.stars(1, 0);
        Houses.add(house, 1, 0, 0, 0);
        finds("no sums", house, NONE, NONE, 0, 11, 0, 20);
        house.secret(1, 0, 0, true);
        finds("secret ones too", house, NONE, NONE, 0, 11, 0, 20);
        Houses.delete(house, 1, 0, 0);
        finds("no deleted ones", house, NONE, NONE, 0, 11, 0);
        house.pass(1);
        Houses.add(house, 1, 0, 0, 0);
        finds("that are added again", house, NONE, NONE, 0, 11, 1, 20);
    }

    private static void findsEdges() {
        Figurehouse house = Houses.flat(14, 10);
        Houses.add(house, 13, 9, 11, 1);
        finds("the last cell", house, 13, 9, 11, 11, 0, 11269);
        finds("the last cell of all", house, NONE, NONE, 0, 11, 0, 11269);
    }
}
