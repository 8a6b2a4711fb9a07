/** The boundary cases that the document names of messages, sentence by sentence. */
public final class MessageEdgesTest {
    private static final int NONE = Figurehouse.NONE;
    private static final int MISSING = Figurehouse.MISSING;
    private static final int ADD = Figurehouse.ADD;
    private static final int REPLACE = Figurehouse.REPLACE;
    private static final int DELETE = Figurehouse.DELETE;

    public static void main(String[] args) {
        draftsUpTo16Lines();
        refusesWithoutAgreement();
        refusesToAddWhatIsThere();
        refusesWhatIsNotThere();
        refusesToReplaceBySame();
        judgesByTheFirstReason();
        judgesBehindTheOnesAhead();
        addsAgainWhatWasDeleted();
        knowsTheEndOfTheDay();
        countsLinesDone();
        Doc.end("MessageEdgesTest", "Messages");
    }

    private static void draftsUpTo16Lines() {
        Doc.at("Messages", "A message is a draft of up to 16 lines");
        Figurehouse house = Houses.flat(1, 1);
        Check.noState("no line", () -> house.send(0));
        Check.is("one line", Houses.add(house, 0, 0, 0, 0), 1);
        for (int line = 1; line <= 16; line++) {
            Check.is("line " + line, house.put(REPLACE, 0, 0, 0, line), line);
        }
        Check.noState("a 17th line", () -> house.put(REPLACE, 0, 0, 0, 17));
        Check.is("16 lines", house.send(0), 16);
        Check.is("the last of them is the figure", house.figure(0, 0, 0, 0), 16);
    }

    private static void refusesWithoutAgreement() {
        Doc.at("Messages", "1 the sender has no agreement for the area");
        Figurehouse house = Houses.flat(0, 1);
        house.area(NONE);
        house.area(0);
        house.area(0);
        house.agree(0, 1, true);
        house.agree(1, 0, true);
        for (int area = 0; area < 3; area++) {
            house.put(ADD, area, 0, 0, 1);
        }
        Check.is("one is done", house.send(0), 1);
        Check.is("for an area right in it alone", house.refusal(0), 1);
        Check.is("for it", house.refusal(1), 0);
        Check.is("for the one beside it alone", house.refusal(2), 1);
        Check.is("another sender has one", house.put(ADD, 0, 0, 0, 1) + house.send(1), 2);
    }

    private static void refusesToAddWhatIsThere() {
        Doc.at("Messages", "2 it is to ADD, and the cell has a figure");
        Figurehouse house = Houses.stars(1, 0);
        Houses.add(house, 1, 0, 0, 0);
        house.put(ADD, 1, 0, 0, 0);
        house.put(ADD, 1, 0, 0, 1);
        house.put(ADD, 0, 0, 0, 1);
        house.put(ADD, 1, 0, 1, 1);
        Check.is("two are done", house.send(0), 2);
        Check.is("a figure of 0, the same", house.refusal(0), 2);
        Check.is("a figure of 0, another", house.refusal(1), 2);
        Check.is("a sum is no figure", house.refusal(2), 0);
        Check.is("another period's is not the cell's", house.refusal(3), 0);
        Check.is("it stays 0", house.figure(1, 0, 0, 0), 0);
    }

    private static void refusesWhatIsNotThere() {
        Doc.at("Messages", "3 it is to REPLACE or to DELETE, and the cell has none");
        Figurehouse house = Houses.stars(1, 0);
        Houses.add(house, 1, 0, 0, 0);
        for (int what = REPLACE; what <= DELETE; what++) {
            house.put(what, 1, 0, 1, 0);
            house.put(what, 0, 0, 0, 0);
            Check.is("none is done", house.send(0), 0);
            Check.is("never told", house.refusal(0), 3);
            Check.is("a sum is none", house.refusal(1), 3);
        }
        Houses.delete(house, 1, 0, 0);
        Check.is("deleted, to REPLACE", Houses.replace(house, 1, 0, 0, 1), 0);
        Check.is("it is so", house.refusal(0), 3);
        Check.is("deleted, to DELETE", Houses.delete(house, 1, 0, 0), 0);
        Check.is("it is so, too", house.refusal(0), 3);
    }

    private static void refusesToReplaceBySame() {
        Doc.at("Messages", "4 it is to REPLACE, and the value is that of the figure; otherwise it is done");
        for (int value : new int[] {-1000000, 0, 1000000}) {
            Figurehouse house = Houses.flat(1, 1);
            int other = value > 0 ? value - 1 : value + 1;
            Houses.add(house, 0, 0, 0, value);
            Check.is("the same", Houses.replace(house, 0, 0, 0, value), 0);
            Check.is("it is so", house.refusal(0), 4);
            Check.is("one beside it", Houses.replace(house, 0, 0, 0, other), 1);
            Check.is("what it was ahead", Houses.replace(house, 0, 0, 0, value), 1);
            Check.is("the same, to DELETE", Houses.tell(house, DELETE, 0, 0, 0, value), 1);
        }
        Figurehouse house = Houses.flat(1, 1);
        Houses.add(house, 0, 0, 0, 5);
        Check.is("the other sign", Houses.replace(house, 0, 0, 0, -5), 1);
    }

    private static void judgesByTheFirstReason() {
        Doc.at("Messages", "a line is refused, by the first of these that is so");
        Figurehouse house = Houses.flat(1, 1);
        Houses.add(house, 0, 0, 0, 4);
        house.put(ADD, 0, 0, 0, 4);
        house.put(REPLACE, 0, 0, 1, 4);
        house.put(DELETE, 0, 0, 1, 4);
        house.put(REPLACE, 0, 0, 0, 4);
        house.put(ADD, 0, 0, 1, 4);
        Check.is("none is done", house.send(3), 0);
        for (int line = 0; line < 5; line++) {
            Check.is("1 goes ahead, line " + line, house.refusal(line), 1);
        }
    }

    private static void judgesBehindTheOnesAhead() {
        Doc.at("Messages", "its lines are judged one behind the other, each behind what the ones ahead of it did");
        int[] whats = {DELETE, REPLACE, ADD, ADD, REPLACE, REPLACE, DELETE, DELETE, REPLACE, ADD, DELETE, ADD, ADD,
            REPLACE, REPLACE, REPLACE};
        int[] values = {1, 1, 1, 1, 1, 2, 0, 0, 2, 2, 0, 2, 2, 2, 1, 2};
        int[] due = {3, 3, 0, 2, 4, 0, 0, 3, 3, 0, 0, 0, 2, 4, 0, 0};
        Figurehouse house = Houses.flat(1, 1);
        for (int line = 0; line < 16; line++) {
            house.put(whats[line], 0, 0, 0, values[line]);
        }
        Check.is("those that are done", house.send(0), 8);
        for (int line = 0; line < 16; line++) {
            Check.is("line " + line, house.refusal(line), due[line]);
        }
        Check.is("behind the last", house.figure(0, 0, 0, 0), 2);
    }

    private static void addsAgainWhatWasDeleted() {
        Doc.at("Messages", "A figure that is deleted is none any more; it may be added again");
        Figurehouse house = Houses.stars(1, 0);
        Houses.add(house, 1, 0, 0, 3);
        Houses.add(house, 0, 0, 0, 8);
        Houses.delete(house, 0, 0, 0);
        Check.is("none any more", house.figure(0, 0, 0, 0), MISSING);
        Check.is("so the sum counts", house.value(0, 0, 0, 0), 3);
        Check.is("nor is it found", house.find(0, 0, 0, 11, 0, 0), 20);
        Check.is("added again, the same", Houses.add(house, 0, 0, 0, 8), 1);
        Check.is("it is one", house.figure(0, 0, 0, 0), 8);
        Houses.delete(house, 1, 0, 0);
        Check.is("with nothing to sum", house.value(1, 0, 0, 0), MISSING);
    }

    private static void knowsTheEndOfTheDay() {
        Doc.at("Messages", "What was known on a day is what had been told by the end of that day");
        Figurehouse house = Houses.flat(1, 1);
        Houses.add(house, 0, 0, 0, 1);
        Check.is("told on the day itself", house.figure(0, 0, 0, 0), 1);
        house.pass(1);
        Houses.replace(house, 0, 0, 0, 2);
        Houses.replace(house, 0, 0, 0, 3);
        house.pass(1);
        Houses.delete(house, 0, 0, 0);
        Houses.add(house, 0, 0, 0, 4);
        Houses.delete(house, 0, 0, 0);
        house.pass(1);
        int[] due = {1, 3, MISSING, MISSING};
        for (int day = 0; day < due.length; day++) {
            Check.is("day " + day, house.figure(0, 0, 0, day), due[day]);
        }
        Houses.add(house, 0, 0, 0, 5);
        house.pass(100);
        Check.is("known still on a day without a line", house.figure(0, 0, 0, 103), 5);
        Check.is("and on the days between", house.figure(0, 0, 0, 4), 5);
        Check.is("not on the day ahead", house.figure(0, 0, 0, 2), MISSING);
    }

    private static void countsLinesDone() {
        Doc.at("Messages", "The revisions of a cell are how many lines were done for it");
        Figurehouse house = Houses.flat(1, 1);
        Check.is("none", house.revisions(0, 0, 0), 0);
        Houses.replace(house, 0, 0, 0, 1);
        Check.is("a refused one is none", house.revisions(0, 0, 0), 0);
        Houses.add(house, 0, 0, 0, 1);
        Houses.delete(house, 0, 0, 0);
        Check.is("a deleting one is one", house.revisions(0, 0, 0), 2);
        house.put(ADD, 0, 0, 0, 1);
        Check.is("a drafted one is none", house.revisions(0, 0, 0), 2);
    }
}
