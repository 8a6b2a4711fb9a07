/** Promises 1 to 4 and 19: a new object, areas, items, agreements. */
public final class AreasItemsTest {
    private static final int NONE = Figurehouse.NONE;

    public static void main(String[] args) {
        newObject();
        numbersAreas();
        numbersItems();
        agreesAndEnds();
        coversWhatLiesIn();
        Check.end("AreasItemsTest");
    }

    private static void newObject() {
        Figurehouse house = new Figurehouse();
        Check.noIndex("1: no area", () -> house.mayTell(0, 0));
        Check.is("1: the draft is empty", house.wipe(), 0);
        Check.noState("1: nothing to send", () -> house.send(0));
        Check.noIndex("1: nothing sent", () -> house.refusal(0));
        for (int period = 0; period < 12; period++) {
            Check.is("1: nothing hidden", house.hidden(period), 0);
        }
        Check.is("1: nothing found", house.find(NONE, NONE, 0, 11, 0, 0), NONE);
        Check.is("1: the first area", house.area(NONE), 0);
        Check.noIndex("1: no item", () -> house.figure(0, 0, 0, 0));
        Check.is("1: the first item", house.item(NONE), 0);
        Check.noArgument("1: the day is 0", () -> house.figure(0, 0, 0, 1));
        Check.is("1: nothing told", house.figure(0, 0, 0, 0), Figurehouse.MISSING);
        Check.is("1: no revision", house.revisions(0, 0, 0), 0);
        Check.is("1: no agreement", house.mayTell(0, 0), false);
        Check.is("1: the day was 0", house.pass(1), 1);
        Figurehouse other = new Figurehouse();
        Check.is("1: houses are apart", other.area(NONE), 0);
        Check.noIndex("1: houses are apart, items", () -> other.figure(0, 0, 0, 0));
    }

    private static void numbersAreas() {
        Figurehouse house = new Figurehouse();
        for (int number = 0; number < 14; number++) {
            Check.is("2: area", house.area(number - 1), number);
        }
        Check.noState("2: a 15th area", () -> house.area(NONE));
        Check.noState("2: a 15th area in the last", () -> house.area(13));
        Check.noIndex("2: no area 14, ahead of there being 14", () -> house.area(14));
        Check.noIndex("2: below NONE, ahead of there being 14", () -> house.area(-2));
        Check.is("2: the last area may be told", house.agree(0, 13, true), true);
        Check.is("2: it lies in all others", house.agree(1, 0, true) && house.mayTell(1, 13), true);
    }

    private static void numbersItems() {
        Figurehouse house = new Figurehouse();
        for (int number = 0; number < 10; number++) {
            Check.is("3: item", house.item(number - 1), number);
        }
        Check.noState("3: an 11th item", () -> house.item(NONE));
        Check.noState("3: an 11th item in the last", () -> house.item(9));
        Check.noIndex("3: no item 10, ahead of there being 10", () -> house.item(10));
        Check.noIndex("3: below NONE, ahead of there being 10", () -> house.item(-2));
        Check.is("3: areas are counted apart", house.area(NONE), 0);
        house.agree(0, 0, true);
        Houses.add(house, 0, 9, 0, 5);
        Check.is("3: the last lies in all others", house.value(0, 0, 0, 0), 5);
    }

    private static void agreesAndEnds() {
        Figurehouse house = Houses.flat(0, 1);
        house.area(NONE);
        house.area(NONE);
        Check.is("4: ending none", house.agree(3, 1, false), false);
        Check.is("4: making it", house.agree(3, 1, true), true);
        Check.is("4: making it again", house.agree(3, 1, true), false);
        Check.is("19: holds", house.mayTell(3, 1), true);
        Check.is("19: of another sender", house.mayTell(2, 1), false);
        Check.is("19: of another area", house.mayTell(3, 0), false);
        Check.is("4: ending it", house.agree(3, 1, false), true);
        Check.is("4: ending it again", house.agree(3, 1, false), false);
        Check.is("19: ended", house.mayTell(3, 1), false);
        Check.is("4: making it once more", house.agree(3, 1, true), true);
        Check.is("19: holds once more", house.mayTell(3, 1), true);
    }

    private static void coversWhatLiesIn() {
        Figurehouse house = new Figurehouse();
        house.area(NONE);
        house.area(0);
        house.area(1);
        house.area(NONE);
        house.area(3);
        house.agree(0, 1, true);
        Check.is("19: not the one around", house.mayTell(0, 0), false);
        Check.is("19: the one itself", house.mayTell(0, 1), true);
        Check.is("19: right in it", house.mayTell(0, 2), true);
        Check.is("19: beside it", house.mayTell(0, 3), false);
        Check.is("19: in the one beside", house.mayTell(0, 4), false);
        Check.is("4: what another covers is an agreement of its own", house.agree(0, 2, true), true);
        Check.is("4: what another covers may not be ended there", house.agree(0, 0, false), false);
        house.agree(0, 1, false);
        Check.is("19: the farther one stays", house.mayTell(0, 2), true);
        Check.is("19: the one around it does not", house.mayTell(0, 1), false);
        house.agree(1, 0, true);
        Check.is("19: farther in", house.mayTell(1, 2), true);
        int later = house.area(2);
        Check.is("19: an area taken up later", house.mayTell(1, later), true);
        Check.is("19: an area taken up later, of another", house.mayTell(2, later), false);
    }
}
