/** The boundary cases that the document's terms name, sentence by sentence: areas, items, cells, senders. */
public final class TermsEdgesTest {
    private static final int NONE = Figurehouse.NONE;
    private static final int MISSING = Figurehouse.MISSING;
    private static final int ADD = Figurehouse.ADD;
    private static final int REPLACE = Figurehouse.REPLACE;
    private static final int DELETE = Figurehouse.DELETE;

    public static void main(String[] args) {
        standsFor512Calls();
        asksWithoutChange();
        refusesWithoutChange();
        throwsTheFirstNamed();
        numbersAreas();
        areasLieInEarlierOnes();
        numbersItems();
        keepsPeriodsApart();
        keepsCellsApart();
        keepsSendersApart();
        coversAllThatLiesIn();
        coversNothingElse();
        Doc.end("TermsEdgesTest", "Terms");
    }

    private static void standsFor512Calls() {
        Doc.at("What it is", "An object is used for at most 512 calls after it has been made");
        Figurehouse house = new Figurehouse();
        house.area(NONE);
        house.item(NONE);
        house.agree(0, 0, true);
        for (int message = 0; message < 254; message++) {
            house.put(message == 0 ? ADD : REPLACE, 0, 0, 0, message);
            Check.is("done, message " + message, house.send(0), 1);
        }
        Check.is("the 512th call", house.revisions(0, 0, 0), 254);
    }

    private static void asksWithoutChange() {
        Doc.at("Terms", "values, refusals, faults and what is shown are asked");
        Figurehouse asked = Edges.some();
        String first = Answers.asked(asked);
        Check.is("asked again", Answers.asked(asked), first);
        Figurehouse spared = Edges.some();
        Check.is("the draft stays", asked.send(0), spared.send(0));
        Check.is("nothing else is changed", Answers.asked(Edges.some()), first);
    }

    private static void refusesWithoutChange() {
        Doc.at("Terms", "A call that throws an exception changes nothing");
        Edges.noIndex("agree", Edges::some, house -> house.agree(4, 0, true));
        Edges.noIndex("to end it", Edges::some, house -> house.agree(0, 3, false));
        Edges.noIndex("put", Edges::some, house -> house.put(ADD, 0, 0, 12, 0));
        Edges.noState("put to a full draft", Edges::fullDraft, house -> house.put(ADD, 0, 0, 0, 0));
        Edges.noIndex("send", Edges::some, house -> house.send(4));
        Edges.noIndex("secret", Edges::some, house -> house.secret(0, 0, 12, true));
        Edges.noState("pass", Edges::full, house -> house.pass(1));
    }

    private static void throwsTheFirstNamed() {
        Doc.at("Terms", "if several exceptions apply, the one that its throws clause names first is thrown");
        Edges.noIndex("area: no such, full", Edges::full, house -> house.area(14));
        Edges.noIndex("item: no such, full", Edges::full, house -> house.item(10));
        Edges.noIndex("put: cell, what", Edges::some, house -> house.put(3, 3, 0, 0, 0));
        Edges.noIndex("put: cell, value", Edges::some, house -> house.put(ADD, 0, 3, 0, 1000001));
        Edges.noIndex("put: cell, full", Edges::fullDraft, house -> house.put(ADD, 0, 0, 12, 0));
        Edges.noArgument("put: what, full", Edges::fullDraft, house -> house.put(-1, 0, 0, 0, 0));
        Edges.noArgument("put: value, full", Edges::fullDraft, house -> house.put(DELETE, 0, 0, 0, -1000001));
        Edges.noIndex("put: all three", Edges::fullDraft, house -> house.put(3, 14, 0, 0, 1000001));
        Edges.noIndex("send: sender, empty", Figurehouse::new, house -> house.send(4));
        Edges.noArgument("pass: days, 1000", Edges::full, house -> house.pass(101));
        Edges.noArgument("pass: days, a wrap-around", Edges::full, house -> house.pass(Integer.MAX_VALUE));
        Edges.noIndex("figure: cell, day", Edges::some, house -> house.figure(3, 0, 0, 4));
        Edges.noIndex("value: cell, day", Edges::some, house -> house.value(0, 0, 12, -1));
        Edges.noIndex("find: area, from", Edges::some, house -> house.find(3, 0, -1, 0, 0, 0));
        Edges.noIndex("find: item, to", Edges::some, house -> house.find(0, 3, 1, 0, 0, 0));
        Edges.noIndex("find: place, since", Edges::some, house -> house.find(0, 0, 0, 0, 1001, -1));
    }

    private static void numbersAreas() {
        Doc.at("Terms", "Areas are numbered from 0, at most 14");
        Figurehouse house = new Figurehouse();
        for (int number = 0; number < 14; number++) {
            Check.is("the number", house.area(NONE), number);
        }
        Check.noState("a 15th", () -> house.area(NONE));
        Check.is("the 14th is one", house.mayTell(0, 13), false);
        Check.noIndex("the 15th is none", () -> house.mayTell(0, 14));
    }

    private static void areasLieInEarlierOnes() {
        Doc.at("Terms", "an area lies right in an earlier one, or in none");
        Figurehouse house = new Figurehouse();
        Check.noIndex("in itself, the first", () -> house.area(0));
        Check.is("in none", house.area(NONE), 0);
        Check.noIndex("in itself, the second", () -> house.area(1));
        Check.noIndex("in a later one", () -> house.area(2));
        Check.is("in the earliest", house.area(0), 1);
        Check.is("in the one right ahead", house.area(1), 2);
        Check.is("in none again", house.area(NONE), 3);
    }

    private static void numbersItems() {
        Doc.at("Terms", "Items are numbered from 0, at most 10, likewise");
        Figurehouse house = new Figurehouse();
        Check.noIndex("in itself, the first", () -> house.item(0));
        for (int number = 0; number < 10; number++) {
            int in = number;
            Check.noIndex("in itself", () -> house.item(in));
            Check.is("the number", house.item(number - 1), number);
        }
        Check.noState("an 11th", () -> house.item(NONE));
        house.area(NONE);
        Check.is("the 10th is one", house.revisions(0, 9, 0), 0);
        Check.noIndex("the 11th is none", () -> house.revisions(0, 10, 0));
    }

    private static void keepsPeriodsApart() {
        Doc.at("Terms", "Periods are 0 to 11");
        Figurehouse house = Houses.flat(1, 1);
        for (int period = 0; period < 12; period++) {
            house.put(ADD, 0, 0, period, 100 + period);
        }
        Check.is("all are done", house.send(0), 12);
        for (int period = 0; period < 12; period++) {
            Check.is("period " + period, house.figure(0, 0, period, 0), 100 + period);
        }
        Check.noIndex("period -1", () -> house.figure(0, 0, -1, 0));
        Check.noIndex("period 12", () -> house.figure(0, 0, 12, 0));
    }

    private static void keepsCellsApart() {
        Doc.at("Terms", "A cell is an area, an item and a period");
        Figurehouse house = Houses.flat(14, 10);
        for (int area = 0; area < 14; area++) {
            for (int item = 0; item < 10; item++) {
                house.put(ADD, area, item, 5, 20 * area + item);
            }
            Check.is("all are done", house.send(0), 10);
        }
        for (int area = 0; area < 14; area++) {
            for (int item = 0; item < 10; item++) {
                Check.is("its own", house.figure(area, item, 5, 0), 20 * area + item);
            }
        }
        Check.is("the last of the period ahead", house.figure(13, 9, 4, 0), MISSING);
        Check.is("the first of the next period", house.figure(0, 0, 6, 0), MISSING);
    }

    private static void keepsSendersApart() {
        Doc.at("Terms", "Senders are 0 to 3");
        for (int sender = 0; sender < 4; sender++) {
            Figurehouse house = new Figurehouse();
            house.area(NONE);
            house.agree(sender, 0, true);
            for (int other = 0; other < 4; other++) {
                Check.is("sender " + other, house.mayTell(other, 0), other == sender);
            }
        }
        Figurehouse house = Houses.flat(14, 1);
        Check.is("the next sender has not the last area's", house.mayTell(1, 0), false);
        Check.noIndex("sender -1", () -> house.mayTell(-1, 0));
        Check.noIndex("sender 4", () -> house.mayTell(4, 0));
    }

    private static void coversAllThatLiesIn() {
        Doc.at("Terms", "An agreement lets a sender tell figures of an area and of all that lie in it");
        Figurehouse house = Houses.chain(14);
        house.agree(0, 0, true);
        house.agree(1, 13, true);
        house.agree(2, 7, true);
        for (int area = 0; area < 14; area++) {
            Check.is("of the first, area " + area, house.mayTell(0, area), true);
            Check.is("of the last, area " + area, house.mayTell(1, area), area == 13);
            Check.is("of one between, area " + area, house.mayTell(2, area), area >= 7);
        }
        Check.is("told of the farthest", Houses.add(house, 13, 0, 0, 1), 1);
    }

    private static void coversNothingElse() {
        Doc.at("Terms", "it may be ended");
        Figurehouse house = Houses.chain(14);
        house.agree(0, 0, true);
        house.agree(0, 13, true);
        house.agree(0, 0, false);
        Check.is("ended, the area itself", house.mayTell(0, 0), false);
        Check.is("ended, what lies in it", house.mayTell(0, 12), false);
        Check.is("another agreement holds on", house.mayTell(0, 13), true);
        house.agree(0, 13, false);
        Check.is("all ended", house.mayTell(0, 13), false);
        Check.is("nothing may be told", Houses.add(house, 13, 0, 0, 1), 0);
    }
}
