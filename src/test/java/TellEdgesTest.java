/** Promises 1 to 8, row by row: the ends of each parameter, of what is returned, and each throws clause. */
public final class TellEdgesTest {
    private static final int NONE = Figurehouse.NONE;
    private static final int MISSING = Figurehouse.MISSING;
    private static final int ADD = Figurehouse.ADD;
    private static final int REPLACE = Figurehouse.REPLACE;
    private static final int DELETE = Figurehouse.DELETE;

    public static void main(String[] args) {
        newObject();
        area();
        areaThrows();
        item();
        itemThrows();
        agree();
        agreeThrows();
        putRows();
        putValue();
        putReturns();
        putThrows();
        wipe();
        send();
        sendReturns();
        sendThrowsForEmpty();
        sendThrowsAbove300();
        sendCountsWhatWasSent();
        refusal();
        refusalThrows();
        Doc.end("TellEdgesTest", Doc.promises(1, 8));
    }

    private static void newObject() {
        Doc.at(1, "Creates a house without areas and items; the draft is empty, the day is 0");
        Check.noIndex("no area", () -> new Figurehouse().mayTell(0, 0));
        Check.noIndex("no item", () -> Edges.areasAlone().figure(0, 0, 0, 0));
        Check.is("the draft is empty", new Figurehouse().wipe(), 0);
        Check.is("the day is 0", new Figurehouse().pass(1), 1);
        Figurehouse house = Houses.flat(1, 1);
        Check.is("day 0 may be asked", house.figure(0, 0, 0, 0), MISSING);
        Check.noArgument("day 1 may not", () -> house.figure(0, 0, 0, 1));
        Check.is("houses are apart", Answers.of(new Figurehouse()), Answers.of(new Figurehouse()));
    }

    private static void area() {
        Doc.at(2, "Takes an area up");
        Figurehouse house = new Figurehouse();
        Check.noIndex("none yet", () -> house.mayTell(0, 0));
        house.area(NONE);
        Check.is("one", house.mayTell(0, 0), false);
        Check.noIndex("no second", () -> house.mayTell(0, 1));
        Doc.at(2, "`in`: the number of an area, or NONE");
        Edges.indexRange(Edges::some, NONE, 2, Figurehouse::area);
        Edges.indexRange(Figurehouse::new, NONE, NONE, Figurehouse::area);
        Edges.indexRange(() -> Houses.chain(13), NONE, 12, Figurehouse::area);
        Doc.at(2, "Returns its number");
        Check.is("the first", new Figurehouse().area(NONE), 0);
        Check.is("the last", Houses.chain(13).area(12), 13);
        Check.is("items do not count", Houses.flat(2, 10).area(0), 2);
    }

    private static void areaThrows() {
        Doc.at(2, "Throws `IndexOutOfBoundsException`");
        Edges.noIndex("the first in itself", Figurehouse::new, house -> house.area(0));
        Edges.noIndex("the next in itself", Edges::some, house -> house.area(3));
        Edges.noIndex("below NONE", Edges::some, house -> house.area(-2));
        Edges.noIndex("ahead of there being 14", Edges::full, house -> house.area(14));
        Edges.allowed("but for NONE", Edges::some, house -> house.area(NONE));
        Doc.at(2, "Throws `IllegalStateException` if there are 14");
        Edges.allowed("there are 13", () -> Houses.chain(13), house -> house.area(12));
        Edges.noState("there are 14, in none", Edges::full, house -> house.area(NONE));
        Edges.noState("there are 14, in the first", Edges::full, house -> house.area(0));
        Edges.noState("there are 14, in the last", () -> Houses.chain(14), house -> house.area(13));
    }

    private static void item() {
        Doc.at(3, "Takes an item up");
        Figurehouse house = Edges.areasAlone();
        Check.noIndex("none yet", () -> house.revisions(0, 0, 0));
        house.item(NONE);
        Check.is("one", house.revisions(0, 0, 0), 0);
        Check.noIndex("no second", () -> house.revisions(0, 1, 0));
        Doc.at(3, "`in`: the number of an item, or NONE");
        Edges.indexRange(Edges::some, NONE, 2, Figurehouse::item);
        Edges.indexRange(Figurehouse::new, NONE, NONE, Figurehouse::item);
        Edges.indexRange(() -> Houses.flat(1, 9), NONE, 8, Figurehouse::item);
        Doc.at(3, "Returns its number");
        Check.is("the first", new Figurehouse().item(NONE), 0);
        Check.is("the last", Houses.flat(1, 9).item(8), 9);
        Check.is("areas do not count", Houses.flat(14, 2).item(1), 2);
    }

    private static void itemThrows() {
        Doc.at(3, "Throws `IndexOutOfBoundsException`");
        Edges.noIndex("the first in itself", Edges::areasAlone, house -> house.item(0));
        Edges.noIndex("the next in itself", Edges::some, house -> house.item(3));
        Edges.noIndex("below NONE", Edges::some, house -> house.item(-2));
        Edges.noIndex("ahead of there being 10", Edges::full, house -> house.item(10));
        Edges.allowed("but for NONE", Edges::some, house -> house.item(NONE));
        Doc.at(3, "Throws `IllegalStateException` if there are 10");
        Edges.allowed("there are 9", () -> Houses.flat(1, 9), house -> house.item(8));
        Edges.noState("there are 10, in none", Edges::full, house -> house.item(NONE));
        Edges.noState("there are 10, in the first", Edges::full, house -> house.item(0));
        Edges.noState("there are 10, in the last", () -> Houses.flat(0, 10), house -> house.item(9));
    }

    private static void agree() {
        Doc.at(4, "Makes an agreement, or ends it");
        Figurehouse house = Houses.chain(14);
        house.agree(3, 13, true);
        Check.is("made", house.mayTell(3, 13), true);
        house.agree(3, 13, false);
        Check.is("ended", house.mayTell(3, 13), false);
        Edges.senderRow(4, (any, sender) -> any.agree(sender, 0, true));
        Edges.areaRow(4, (any, area) -> any.agree(0, area, false));
        Doc.at(4, "`isOn`: whether it holds then");
        for (boolean isOn : new boolean[] {true, false, false, true, true}) {
            house.agree(0, 5, isOn);
            Check.is("it holds, " + isOn, house.mayTell(0, 5), isOn);
        }
        Doc.at(4, "Returns whether that changes something");
        Figurehouse other = Houses.chain(3);
        Check.is("none to end", other.agree(0, 1, false), false);
        Check.is("to make it", other.agree(0, 1, true), true);
        Check.is("to make it again", other.agree(0, 1, true), false);
        Check.is("to make one around it", other.agree(0, 0, true), true);
        Check.is("to make one in it", other.agree(0, 2, true), true);
        Check.is("to make another sender's", other.agree(1, 1, true), true);
        Check.is("to end it", other.agree(0, 1, false), true);
        Check.is("to end it again", other.agree(0, 1, false), false);
    }

    private static void agreeThrows() {
        Doc.at(4, "Throws `IndexOutOfBoundsException` if there is no such sender or area");
        for (boolean isOn : new boolean[] {true, false}) {
            Edges.noIndex("no areas", Figurehouse::new, house -> house.agree(0, 0, isOn));
            Edges.noIndex("the area behind the last", Edges::full, house -> house.agree(3, 14, isOn));
            Edges.noIndex("NONE", Edges::full, house -> house.agree(0, NONE, isOn));
            Edges.noIndex("the sender behind the last", Edges::full, house -> house.agree(4, 13, isOn));
            Edges.noIndex("the sender ahead of the first", Edges::full, house -> house.agree(-1, 0, isOn));
        }
    }

    private static void putRows() {
        Doc.at(5, "Puts a line behind the draft");
        Figurehouse house = Houses.flat(1, 1);
        house.put(ADD, 0, 0, 0, 1);
        house.put(REPLACE, 0, 0, 0, 2);
        house.put(DELETE, 0, 0, 0, 0);
        Check.is("in their order all are done", house.send(0), 3);
        Doc.at(5, "`what`: ADD to DELETE");
        Edges.argumentRange(Edges::some, ADD, DELETE, (any, what) -> any.put(what, 0, 0, 0, 0));
        Edges.argumentRange(Edges::full, ADD, DELETE, (any, what) -> any.put(what, 13, 9, 11, 0));
        Edges.cellRows(5, (any, area, item, period) -> any.put(ADD, area, item, period, 0));
    }

    private static void putValue() {
        Doc.at(5, "`value`: -1000000 to 1000000; for DELETE it does not matter, if it is in range");
        for (int what = ADD; what <= DELETE; what++) {
            int kind = what;
            Edges.argumentRange(Edges::some, -1000000, 1000000, (any, value) -> any.put(kind, 0, 0, 0, value));
        }
        for (int value : new int[] {-1000000, -1, 0, 1, 7, 1000000}) {
            Figurehouse house = Houses.flat(1, 1);
            Houses.add(house, 0, 0, 0, 7);
            Check.is("to DELETE with " + value, Houses.tell(house, DELETE, 0, 0, 0, value), 1);
            Check.is("it is none any more", house.figure(0, 0, 0, 0), MISSING);
        }
        Edges.noArgument("MISSING", Edges::some, any -> any.put(DELETE, 1, 2, 0, MISSING));
    }

    private static void putReturns() {
        Doc.at(5, "Returns how many lines the draft has then");
        Figurehouse house = Houses.flat(1, 1);
        for (int lines = 1; lines <= 16; lines++) {
            Check.is("lines", house.put(ADD, 0, 0, 0, 0), lines);
        }
        house.wipe();
        Check.is("behind a wipe", house.put(ADD, 0, 0, 0, 0), 1);
        house.send(0);
        Check.is("behind a send", house.put(ADD, 0, 0, 0, 0), 1);
        Check.noState("not sent", () -> new Figurehouse().send(0));
        Check.is("the next", house.put(ADD, 0, 0, 0, 0), 2);
    }

    private static void putThrows() {
        Doc.at(5, "Throws `IllegalArgumentException` if what or value is out of range");
        Edges.noArgument("what below", Edges::some, any -> any.put(ADD - 1, 0, 0, 0, 0));
        Edges.noArgument("what above", Edges::some, any -> any.put(DELETE + 1, 0, 0, 0, 0));
        Edges.noArgument("value below", Edges::some, any -> any.put(ADD, 0, 0, 0, -1000001));
        Edges.noArgument("value above", Edges::some, any -> any.put(REPLACE, 0, 0, 0, 1000001));
        Edges.noArgument("both", Edges::some, any -> any.put(3, 0, 0, 0, 1000001));
        Edges.noArgument("ahead of the full draft", Edges::fullDraft, any -> any.put(3, 0, 0, 0, 0));
        Doc.at(5, "Throws `IllegalStateException` if it has 16");
        Edges.allowed("it has 15", Edges::full, any -> any.put(ADD, 0, 0, 0, 0));
        for (int what = ADD; what <= DELETE; what++) {
            int kind = what;
            Edges.noState("it has 16", Edges::fullDraft, any -> any.put(kind, 0, 0, 0, 0));
        }
        Figurehouse house = Edges.fullDraft();
        house.wipe();
        Check.is("it had 16 ahead of the wipe", house.put(ADD, 0, 0, 0, 0), 1);
    }

    private static void wipe() {
        Doc.at(6, "Empties the draft; returns how many lines it had");
        Check.is("none, of a new house", new Figurehouse().wipe(), 0);
        Figurehouse house = Edges.fullDraft();
        Check.is("16", house.wipe(), 16);
        Check.is("none, behind a wipe", house.wipe(), 0);
        Check.noState("nothing is left to send", () -> house.send(0));
        house.put(ADD, 0, 0, 0, 1);
        Check.is("one", house.wipe(), 1);
        house.put(ADD, 0, 0, 0, 2);
        house.send(0);
        Check.is("none, behind a send", house.wipe(), 0);
        Check.is("what was wiped was not told", house.first(0, 0, 0), 2);
        Check.is("refusals stay as they were", house.refusal(0), 0);
    }

    private static void send() {
        Doc.at(7, "Sends the draft, which is empty then");
        Figurehouse house = Edges.fullDraft();
        house.send(0);
        Check.noState("it is empty", () -> house.send(0));
        Check.is("it has no line", house.wipe(), 0);
        house.put(ADD, 0, 0, 0, 1);
        Check.is("none is done", house.send(3), 0);
        Check.is("it is empty, though none was done", house.wipe(), 0);
        Edges.senderRow(7, (any, sender) -> any.send(sender));
        Doc.at(7, "Throws `IndexOutOfBoundsException` if there is no such sender");
        Edges.noIndex("below the first", Edges::some, any -> any.send(-1));
        Edges.noIndex("behind the last", Edges::some, any -> any.send(4));
        Edges.noIndex("ahead of the empty draft", Figurehouse::new, any -> any.send(4));
    }

    private static void sendReturns() {
        Doc.at(7, "Returns how many lines are done");
        Figurehouse house = Houses.flat(14, 10);
        house.put(REPLACE, 0, 0, 0, 1);
        Check.is("none", house.send(0), 0);
        house.put(ADD, 0, 0, 0, 1);
        Check.is("one", house.send(0), 1);
        for (int line = 0; line < 16; line++) {
            house.put(line % 2 == 0 ? ADD : DELETE, 13, 9, 11, line);
        }
        Check.is("16", house.send(0), 16);
        for (int line = 0; line < 16; line++) {
            house.put(ADD, 13, 9, 11, line);
        }
        Check.is("one of 16", house.send(0), 1);
        Check.is("it is the first", house.figure(13, 9, 11, 0), 0);
    }

    private static void sendThrowsForEmpty() {
        Doc.at(7, "Throws `IllegalStateException` if it is empty");
        Edges.noState("of a new house", Figurehouse::new, house -> house.send(0));
        Edges.noState("behind a wipe", TellEdgesTest::wiped, house -> house.send(0));
        Edges.noState("behind a send", TellEdgesTest::sent, house -> house.send(0));
    }

    private static Figurehouse wiped() {
        Figurehouse house = Edges.some();
        house.wipe();
        return house;
    }

    private static Figurehouse sent() {
        Figurehouse house = Edges.some();
        house.send(0);
        return house;
    }

    private static Figurehouse with284Sent(int sender) {
        Figurehouse house = Houses.flat(1, 1);
        house.put(ADD, 0, 0, 0, 0);
        for (int line = 2; line <= 284; line++) {
            house.put(REPLACE, 0, 0, 0, line);
            if (line % 16 == 0) {
                house.send(sender);
            }
        }
        house.send(sender);
        return house;
    }

    private static void putLines(Figurehouse house, int lines) {
        for (int line = 1; line <= lines; line++) {
            house.put(REPLACE, 0, 0, 0, -line);
        }
    }

    private static void sendThrowsAbove300() {
        Doc.at(7, "or more than 300 lines, done or not, would have been sent with it");
        for (int sender = 0; sender < 2; sender++) {
            Figurehouse house = with284Sent(sender);
            putLines(house, 16);
            Check.is("300 with it, of sender " + sender, house.send(0), sender == 0 ? 16 : 0);
            Check.is("its last line is a line of the latest", house.refusal(15), sender == 0 ? 0 : 3);
            putLines(house, 1);
            Check.noState("301 with it", () -> house.send(0));
            Check.noState("301 with it, again", () -> house.send(3));
            Check.noIndex("no such sender goes ahead", () -> house.send(4));
            Check.is("the latest is the one ahead", house.refusal(15), sender == 0 ? 0 : 3);
            Check.is("nothing was told", house.revisions(0, 0, 0), sender == 0 ? 300 : 0);
            Check.is("the draft stays", house.wipe(), 1);
        }
    }

    private static void sendCountsWhatWasSent() {
        Doc.at(7, "or more than 300 lines, done or not, would have been sent with it");
        Figurehouse house = with284Sent(0);
        putLines(house, 16);
        house.wipe();
        putLines(house, 15);
        Check.is("what was wiped does not count", house.send(0), 15);
        putLines(house, 2);
        Check.noState("301 with it", () -> house.send(0));
        house.wipe();
        putLines(house, 1);
        Check.is("what was not sent does not count", house.send(0), 1);
        Check.is("300 are done", house.revisions(0, 0, 0), 300);
    }

    private static Figurehouse judged() {
        Figurehouse house = Houses.flat(1, 1);
        house.area(NONE);
        house.put(ADD, 1, 0, 0, 1);
        house.put(REPLACE, 0, 0, 0, 1);
        house.put(ADD, 0, 0, 0, 1);
        house.put(ADD, 0, 0, 0, 1);
        house.put(REPLACE, 0, 0, 0, 1);
        house.send(0);
        return house;
    }

    private static void refusal() {
        Doc.at(8, "Returns why a line of the latest message was refused");
        Figurehouse house = judged();
        Check.is("the first line", house.refusal(0), 1);
        house.put(ADD, 0, 0, 0, 1);
        Check.is("not of the draft", house.refusal(0), 1);
        house.send(0);
        Check.is("of the latest", house.refusal(0), 2);
        Doc.at(8, "`line`: from 0 on");
        Edges.indexRange(TellEdgesTest::judged, 0, 4, Figurehouse::refusal);
        Doc.at(8, "Returns 1 to 4; 0, if it was done");
        int[] due = {1, 3, 0, 2, 4};
        for (int line = 0; line < due.length; line++) {
            Check.is("line " + line, judged().refusal(line), due[line]);
        }
        Figurehouse full = Edges.fullDraft();
        full.send(0);
        Check.is("the last of 16", full.refusal(15), 0);
    }

    private static Figurehouse shorterThanTheOneAhead() {
        Figurehouse house = Edges.fullDraft();
        house.send(0);
        house.put(ADD, 1, 1, 0, 2);
        house.put(ADD, 1, 1, 0, 2);
        house.send(0);
        return house;
    }

    private static void refusalThrows() {
        Doc.at(8, "Throws `IndexOutOfBoundsException` if it has no such line, or none was sent");
        Edges.noIndex("a new house", Figurehouse::new, house -> house.refusal(0));
        Edges.noIndex("put, not sent", TellEdgesTest::drafted, house -> house.refusal(0));
        Edges.noIndex("below 0", TellEdgesTest::judged, house -> house.refusal(-1));
        Edges.noIndex("behind the last", TellEdgesTest::judged, house -> house.refusal(5));
        Edges.noIndex("behind 16", TellEdgesTest::judged, house -> house.refusal(16));
        Check.is("the last of two", shorterThanTheOneAhead().refusal(1), 2);
        for (int line = 2; line < 16; line++) {
            int at = line;
            Edges.noIndex("a line of the one ahead", TellEdgesTest::shorterThanTheOneAhead, house -> house.refusal(at));
        }
    }

    private static Figurehouse drafted() {
        Figurehouse house = Houses.flat(1, 1);
        house.put(ADD, 0, 0, 0, 1);
        return house;
    }
}
