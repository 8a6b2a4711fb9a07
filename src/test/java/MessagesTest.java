/** Promises 5 to 8: put, wipe, send, refusal. */
public final class MessagesTest {
    private static final int ADD = Figurehouse.ADD;
    private static final int REPLACE = Figurehouse.REPLACE;
    private static final int DELETE = Figurehouse.DELETE;
    private static final int MISSING = Figurehouse.MISSING;

    public static void main(String[] args) {
        putsAndWipes();
        putsEdges();
        sends();
        judgesInOrder();
        judgesBehindTheOnesAhead();
        judgesTheFirstReason();
        addsZeroAndDeletes();
        refusesToSend();
        sendsThreeHundred();
        asksRefusals();
        Check.end("MessagesTest");
    }

    private static void putsAndWipes() {
        Figurehouse house = Houses.flat(1, 1);
        Check.is("6: an empty draft", house.wipe(), 0);
        for (int line = 1; line <= 16; line++) {
            Check.is("5: lines", house.put(ADD, 0, 0, 0, line), line);
        }
        Check.noState("5: a 17th line", () -> house.put(ADD, 0, 0, 0, 17));
        Check.is("6: a full draft", house.wipe(), 16);
        Check.is("6: it is empty then", house.wipe(), 0);
        Check.noState("6: nothing is left to send", () -> house.send(0));
        Check.is("5: from one on again", house.put(ADD, 0, 0, 0, 7), 1);
        Check.is("5: nothing is told yet", house.figure(0, 0, 0, 0), MISSING);
        Check.is("5: no revision yet", house.revisions(0, 0, 0), 0);
        house.send(0);
        Check.is("6: what was wiped is not told", house.figure(0, 0, 0, 0), 7);
    }

    private static void putsEdges() {
        Figurehouse house = Houses.flat(14, 10);
        Check.is("5: the most", house.put(ADD, 13, 9, 11, 1000000), 1);
        Check.is("5: the least", house.put(ADD, 0, 0, 0, -1000000), 2);
        Check.is("7: both are done", house.send(0), 2);
        Check.is("5: the last cell", house.figure(13, 9, 11, 0), 1000000);
        Check.is("5: the first cell", house.figure(0, 0, 0, 0), -1000000);
        Check.is("5: to delete, the value does not matter", house.put(DELETE, 13, 9, 11, 1000000), 1);
        Check.is("5: nor that of another figure", house.put(DELETE, 0, 0, 0, 3), 2);
        Check.is("7: both are deleted", house.send(0), 2);
        Check.is("7: no figure any more", house.figure(13, 9, 11, 0), MISSING);
    }

    private static void sends() {
        Figurehouse house = Houses.flat(2, 2);
        house.put(ADD, 0, 0, 0, 1);
        house.put(ADD, 1, 1, 11, -2);
        Check.is("7: two are done", house.send(0), 2);
        Check.is("7: the draft is empty then", house.wipe(), 0);
        Check.is("7: the first", house.figure(0, 0, 0, 0), 1);
        Check.is("7: the second", house.figure(1, 1, 11, 0), -2);
        Check.is("7: no other area", house.figure(1, 0, 0, 0), MISSING);
        Check.is("7: no other item", house.figure(0, 1, 0, 0), MISSING);
        Check.is("7: no other period", house.figure(0, 0, 1, 0), MISSING);
    }

    private static void judgesInOrder() {
        Figurehouse house = Houses.flat(2, 1);
        house.agree(0, 1, false);
        Houses.add(house, 0, 0, 0, 4);
        house.put(ADD, 1, 0, 0, 1);
        house.put(ADD, 0, 0, 0, 9);
        house.put(REPLACE, 0, 0, 1, 9);
        house.put(DELETE, 0, 0, 1, 9);
        house.put(REPLACE, 0, 0, 0, 4);
        house.put(REPLACE, 0, 0, 0, 5);
        Check.is("7: one is done", house.send(0), 1);
        int[] due = {1, 2, 3, 3, 4, 0};
        for (int line = 0; line < due.length; line++) {
            Check.is("8: line " + line, house.refusal(line), due[line]);
        }
        Check.is("7: what is refused is not told", house.figure(0, 0, 0, 0), 5);
        Check.is("7: nor without agreement", house.figure(1, 0, 0, 0), MISSING);
        Check.is("7: nor is it a revision", house.revisions(0, 0, 0), 2);
    }

    private static void judgesBehindTheOnesAhead() {
        Figurehouse house = Houses.flat(1, 1);
        house.put(REPLACE, 0, 0, 0, 1);
        house.put(ADD, 0, 0, 0, 1);
        house.put(ADD, 0, 0, 0, 2);
        house.put(REPLACE, 0, 0, 0, 1);
        house.put(REPLACE, 0, 0, 0, 2);
        house.put(REPLACE, 0, 0, 0, 2);
        house.put(REPLACE, 0, 0, 0, 1);
        house.put(DELETE, 0, 0, 0, 1);
        house.put(DELETE, 0, 0, 0, 1);
        house.put(REPLACE, 0, 0, 0, 3);
        house.put(ADD, 0, 0, 0, 1);
        Check.is("7: those that are done", house.send(0), 5);
        int[] due = {3, 0, 2, 4, 0, 4, 0, 0, 3, 3, 0};
        for (int line = 0; line < due.length; line++) {
            Check.is("8: behind the ones ahead, line " + line, house.refusal(line), due[line]);
        }
        Check.is("7: the figure behind all", house.figure(0, 0, 0, 0), 1);
    }

    private static void judgesTheFirstReason() {
        Figurehouse house = Houses.flat(1, 1);
        Houses.add(house, 0, 0, 0, 4);
        house.put(ADD, 0, 0, 0, 4);
        house.put(REPLACE, 0, 0, 0, 4);
        house.put(DELETE, 0, 0, 1, 0);
        Check.is("7: another sender tells nothing", house.send(1), 0);
        for (int line = 0; line < 3; line++) {
            Check.is("8: the agreement comes first", house.refusal(line), 1);
        }
        house.put(REPLACE, 0, 0, 0, 6);
        house.agree(0, 0, false);
        house.agree(3, 0, true);
        Check.is("7: the agreement counts as it is sent", house.send(3), 1);
        Check.is("7: it is told", house.figure(0, 0, 0, 0), 6);
        house.put(REPLACE, 0, 0, 0, 7);
        Check.is("7: an ended agreement does not count", house.send(0), 0);
        Check.is("8: nor does it", house.refusal(0), 1);
    }

    private static void addsZeroAndDeletes() {
        Figurehouse house = Houses.stars(1, 0);
        Check.is("7: 0 is a figure", Houses.add(house, 1, 0, 0, 0), 1);
        Check.is("7: it is there", Houses.add(house, 1, 0, 0, 1), 0);
        Check.is("8: as it is there", house.refusal(0), 2);
        Check.is("7: 0 for 0", Houses.replace(house, 1, 0, 0, 0), 0);
        Check.is("8: 0 for 0", house.refusal(0), 4);
        Check.is("7: a sum is no figure", Houses.replace(house, 0, 0, 0, 5), 0);
        Check.is("8: a sum is no figure", house.refusal(0), 3);
        Check.is("7: beside a sum a figure may be added", Houses.add(house, 0, 0, 0, 5), 1);
        Check.is("7: to delete with any value", Houses.tell(house, DELETE, 1, 0, 0, 77), 1);
        Check.is("7: to add it again", Houses.add(house, 1, 0, 0, 0), 1);
    }

    private static void refusesToSend() {
        Figurehouse house = Houses.flat(1, 1);
        for (int sender : new int[] {-1, 4, Integer.MIN_VALUE, Integer.MAX_VALUE}) {
            Check.noIndex("7: sender ahead of the empty draft, " + sender, () -> house.send(sender));
        }
        Check.noState("7: an empty draft", () -> house.send(0));
        house.put(ADD, 0, 0, 0, 1);
        Check.noIndex("7: no sender 4", () -> house.send(4));
        Check.noIndex("8: none was sent by that", () -> house.refusal(0));
        Check.is("7: the draft stays", house.send(0), 1);
        Check.noState("7: it is empty again", () -> house.send(0));
    }

    private static void sendsThreeHundred() {
        Figurehouse house = Houses.flat(1, 1);
        for (int message = 0; message < 18; message++) {
            fill(house, 16);
            Check.is("7: refused lines count too", house.send(1), 0);
        }
        fill(house, 13);
        Check.noState("7: 301 lines", () -> house.send(0));
        Check.noIndex("7: the sender comes first", () -> house.send(4));
        Check.is("8: the latest message is the one before", house.refusal(15), 1);
        Check.is("7: nothing is told", house.figure(0, 0, 0, 0), MISSING);
        Check.is("7: the draft stays", house.wipe(), 13);
        fill(house, 12);
        Check.is("7: 300 lines", house.send(0), 12);
        Check.is("7: told", house.figure(0, 0, 0, 0), 11);
        fill(house, 1);
        Check.noState("7: one more", () -> house.send(0));
        Check.is("7: the full house stays", house.figure(0, 0, 0, 0), 11);
    }

    private static void fill(Figurehouse house, int lines) {
        boolean isThere = house.figure(0, 0, 0, 0) != MISSING;
        for (int line = 0; line < lines; line++) {
            house.put(line == 0 && !isThere ? ADD : REPLACE, 0, 0, 0, line);
        }
    }

    private static void asksRefusals() {
        Figurehouse house = Houses.flat(1, 1);
        house.put(ADD, 0, 0, 0, 1);
        Check.noIndex("8: a draft is no message", () -> house.refusal(0));
        house.wipe();
        for (int line = 0; line < 16; line++) {
            house.put(ADD, 0, 0, line % 12, 1);
        }
        Check.is("7: twelve are done", house.send(0), 12);
        Check.is("8: the first line", house.refusal(0), 0);
        Check.is("8: the last line", house.refusal(15), 2);
        for (int line : new int[] {-1, 16, Integer.MIN_VALUE, Integer.MAX_VALUE}) {
            Check.noIndex("8: line " + line, () -> house.refusal(line));
        }
        house.put(DELETE, 0, 0, 0, 0);
        Check.is("8: the draft does not change it", house.refusal(15), 2);
        house.wipe();
        Check.is("8: nor does the wiping", house.refusal(15), 2);
        Check.noState("8: nor what is not sent", () -> house.send(0));
        Check.is("8: it is the same", house.refusal(14), 2);
        house.put(REPLACE, 0, 0, 0, 1);
        house.send(0);
        Check.is("8: the latest counts", house.refusal(0), 4);
        Check.noIndex("8: it has one line", () -> house.refusal(1));
    }
}
