/** Houses and steps that several tests begin with. */
final class Houses {
    private Houses() {
    }

    /** As many areas and items as told, none in another; sender 0 has agreements for all areas. */
    static Figurehouse flat(int areas, int items) {
        Figurehouse house = new Figurehouse();
        for (int area = 0; area < areas; area++) {
            house.area(Figurehouse.NONE);
            house.agree(0, area, true);
        }
        for (int item = 0; item < items; item++) {
            house.item(Figurehouse.NONE);
        }
        return house;
    }

    /** Area 0 with as many in it as told, item 0 likewise; sender 0 has an agreement for area 0. */
    static Figurehouse stars(int areasIn, int itemsIn) {
        Figurehouse house = flat(1, 1);
        for (int area = 0; area < areasIn; area++) {
            house.area(0);
        }
        for (int item = 0; item < itemsIn; item++) {
            house.item(0);
        }
        return house;
    }

    /** One area and one item, without a figure; sender 0 has an agreement. */
    static Figurehouse single() {
        return flat(1, 1);
    }

    /** As many areas as told, each right in the one ahead of it, and an item; nobody has an agreement. */
    static Figurehouse chain(int areas) {
        Figurehouse house = flat(0, 1);
        for (int area = 0; area < areas; area++) {
            house.area(area - 1);
        }
        return house;
    }

    /** Sends one line as sender 0; returns how many lines were done. */
    static int tell(Figurehouse house, int what, int area, int item, int period, int value) {
        house.put(what, area, item, period, value);
        return house.send(0);
    }

    static int add(Figurehouse house, int area, int item, int period, int value) {
        return tell(house, Figurehouse.ADD, area, item, period, value);
    }

    static int replace(Figurehouse house, int area, int item, int period, int value) {
        return tell(house, Figurehouse.REPLACE, area, item, period, value);
    }

    static int delete(Figurehouse house, int area, int item, int period) {
        return tell(house, Figurehouse.DELETE, area, item, period, 0);
    }
}
