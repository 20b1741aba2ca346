/** Promises 25 to 28: undoing, images, and what the list tells. */
final class UndoTest {
    private static final Due due = new Due("UndoTest");

    public static void main(String[] args) {
        undo();
        undoBringsAllBack();
        undoOfAClosing();
        image();
        imageOfAClosedRing();
        imageBeingMade();
        tell();
        check();
        checkOfSixtyRounds();
        due.end();
    }

    private static void undo() {
        due.promise(25);
        PurseRing x = Rings.making(Rings.ORDER, 10, 3, 0, 2, 2, 2);
        due.is("no ring", x.undo(1), Rings.NONE);
        due.is("no ring", x.undo(-1), Rings.NONE);
        due.is("being made", x.undo(0), Rings.NONE);
        x.open(0);
        due.is("no round", x.undo(0), Rings.NONE);
        due.is("still open", x.count(0, 4), 1);
        x.draw(0);
        x.draw(0);
        due.is("can be undone", x.count(0, 12), 2);
        due.is("the second", x.undo(0), 1);
        due.is("round", x.count(0, 5), 1);
        due.is("debt", x.look(0, 0, 3), 10);
        due.is("the first", x.undo(0), 0);
        due.is("no debt", x.look(0, 0, 3), 0);
        due.is("full again", x.look(0, 0, 10), 1);
        due.is("none left", x.undo(0), Rings.NONE);
        due.is("not kept any more", x.drawn(0, 0, 1), Rings.NONE);
        Rings.payAndDraw(x, 0, 1, 2);
        due.is("drawn anew", x.drawn(0, 0, 1), 30);
        due.is("can be undone", x.count(0, 12), 1);
    }

    private static void undoBringsAllBack() {
        PurseRing x = Rings.making(Rings.LOT, 10, 3, 6, 4, 3, 2);
        x.answers(0, 0, 1);
        x.lot(0, 1);
        x.open(0);
        x.deposit(0, 0, 4);
        x.row(0, 3);
        x.pay(0, 0, 0);
        x.pay(0, 1, 1);
        x.draw(0);
        x.late(0, 1);
        x.lot(0, 2);
        x.lot(0, 3);
        x.stop(0, 2);
        x.replace(0, 2, 4);
        x.deposit(0, 2, 9);
        x.row(0, 2);
        due.is("undo", x.undo(0), 0);
        due.is("lots", x.count(0, 11), 1);
        due.is("stops", x.count(0, 8), 0);
        due.is("stop", x.stops(0, 0, 0), Rings.NONE);
        due.is("chest", x.count(0, 3), 6);
        due.is("fines", x.count(0, 13), 0);
        due.is("cells", x.count(0, 7), 3);
        due.is("cell", x.came(0, 1), 5);
        due.is("the paid half", x.pay(0, 1, 1), Rings.PAID);
        due.is("the other half", x.pay(0, 1, 0), Rings.DONE);
        due.is("paid", x.look(0, 1, 6), 10);
        due.is("holds", x.look(0, 2, 0), 2);
        due.is("deposit", x.look(0, 0, 5), 4);
        due.is("no deposit", x.look(0, 2, 5), 0);
        PurseRing y = Rings.payers(Rings.NEED, 3);
        y.need(0, 2);
        y.yes(0, 2);
        y.yes(0, 0);
        y.draw(0);
        y.need(0, 1);
        due.is("undo", y.undo(0), 0);
        due.is("who asks", y.count(0, 9), 2);
        due.is("yes", y.count(0, 10), 2);
        PurseRing z = Rings.payers(Rings.BID, 2);
        z.bid(0, 1, 3);
        z.draw(0);
        z.undo(0);
        Rings.payAndDraw(z, 0, 1);
        due.is("the bid", z.drawn(0, 0, 2), 3);
    }

    private static void undoOfAClosing() {
        PurseRing x = Rings.payers(Rings.ORDER, 2);
        Rings.payAndDraw(x, 0, 1);
        x.stop(0, 1);
        x.draw(0);
        x.close(0);
        due.is("unpaid", x.stops(0, 0, 4), 7);
        due.is("undo", x.undo(0), 1);
        due.is("open again", x.count(0, 4), 1);
        due.is("stop stays", x.stops(0, 0, 2), 7);
        due.is("unpaid ahead of closing", x.stops(0, 0, 4), 0);
        x.draw(0);
        x.late(0, 0);
        x.close(0);
        due.is("paid now", x.stops(0, 0, 4), 0);
        PurseRing y = Rings.opened(Rings.BID, 10, 3, 5, 2, 3);
        y.bid(0, 0, 4);
        Rings.payAndDraw(y, 0, 1);
        y.row(0, 2);
        y.pay(0, 0, 0);
        y.pay(0, 1, 0);
        y.draw(0);
        y.close(0);
        due.is("shared", y.look(0, 1, 8), 4);
        due.is("got back", y.look(0, 0, 9), 20);
        y.undo(0);
        due.is("shared in round 0", y.look(0, 1, 8), 4);
        due.is("not got back", y.look(0, 0, 9), 0);
        due.is("chest", y.count(0, 3), 5);
        due.is("the first half is paid", y.pay(0, 1, 0), Rings.PAID);
        due.is("the second is not", y.pay(0, 1, 1), Rings.DONE);
        y.undo(0);
        due.is("not shared", y.look(0, 1, 8), 0);
        due.is("did not draw in coins", y.look(0, 0, 7), 0);
    }

    private static void image() {
        due.promise(26);
        PurseRing x = Rings.making(Rings.BID, 10, 3, 7, 4, 2, 3, 1);
        x.answers(0, 0, 1);
        x.open(0);
        x.deposit(0, 0, 5);
        Rings.payAndDraw(x, 0, 2);
        x.stop(0, 2);
        x.row(0, 2);
        x.pay(0, 0, 0);
        x.bid(0, 1, 2);
        due.is("no ring", x.image(1), Rings.NONE);
        due.is("no ring", x.image(-1), Rings.NONE);
        due.is("number", x.image(0), 1);
        due.is("rings", x.count(Rings.NONE, 0), 2);
        for (int seat = 0; seat < 60; seat++) {
            for (int what = 0; what <= 11; what++) {
                due.is("look " + what, x.look(1, seat, what), x.look(0, seat, what));
            }
            due.is("cell", x.came(1, seat), x.came(0, seat));
        }
        for (int what = 0; what <= 13; what++) {
            if (what != 12) {
                due.is("count " + what, x.count(1, what), x.count(0, what));
            }
        }
        due.is("letter", x.letter(1, 3), 7);
        due.is("kept", x.drawn(1, 0, 1), x.drawn(0, 0, 1));
        for (int what = 0; what <= 4; what++) {
            due.is("stop " + what, x.stops(1, 0, what), x.stops(0, 0, what));
        }
        due.is("stop", x.stops(1, 0, 0), 2);
        due.is("nothing to be undone", x.count(1, 12), 0);
        due.is("nothing to be undone", x.undo(1), Rings.NONE);
        due.is("of this one it is", x.count(0, 12), 1);
        due.is("was ahead of the image", x.as(1, 0, 0, 0), Rings.NONE);
        x.late(1, 1);
        x.replace(1, 2, 2);
        x.draw(1);
        due.is("the other one's debt", x.look(0, 1, 3), 5);
        due.is("the other one's round", x.count(0, 5), 1);
        due.is("the other one is stopped", x.look(0, 2, 2), 1);
        due.is("the bid came along", x.look(1, 1, 1) + x.look(1, 0, 1), 1);
        due.is("its own", x.count(1, 12), 1);
        due.is("as its own draw() found it", x.as(1, 1, 0, 6), 20);
        due.is("undo", x.undo(1), 1);
        due.is("and no further", x.undo(1), Rings.NONE);
        due.is("undo of the first", x.undo(0), 0);
        due.is("an image keeps its stop", x.stops(1, 0, 0), 2);
        for (int i = 2; i < 40; i++) {
            due.is("image " + i, x.image(1), i);
        }
        due.is("one more than 40", x.image(0), Rings.NONE);
    }

    private static void imageOfAClosedRing() {
        PurseRing x = Rings.payers(Rings.ORDER, 2);
        Rings.payAndDraw(x, 0, 1);
        x.stop(0, 1);
        x.draw(0);
        x.stop(0, 0);
        x.close(0);
        x.image(0);
        due.is("closed", x.count(1, 4), 2);
        due.is("round", x.stops(1, 1, 1), 2);
        due.is("owed", x.stops(1, 0, 2), 7);
        due.is("owes", x.stops(1, 1, 3), 10);
        due.is("unpaid", x.stops(1, 0, 4), 7);
        x.undo(0);
        x.stop(0, 0);
        due.is("its own stops", x.stops(0, 1, 1), 1);
        due.is("the image keeps its own", x.stops(1, 1, 1), 2);
        due.is("nothing to be undone", x.undo(1), Rings.NONE);
    }

    private static void imageBeingMade() {
        PurseRing x = Rings.making(Rings.ORDER, 10, 0, 0, 2, 2, 2);
        x.order(0, 2);
        x.image(0);
        due.is("told in the image", x.order(1, 2), Rings.PAID);
        x.order(1, 1);
        due.is("not told in the first", x.order(0, 1), Rings.DONE);
        x.seat(1, 0, 0, 0);
        due.is("the first one's seat", x.look(0, 0, 0), 2);
        PurseRing y = Rings.making(Rings.LOT, 10, 0, 0, 2, 2, 2);
        y.lot(0, 2);
        y.image(0);
        y.open(1);
        y.lot(1, 7);
        due.is("lots of the first", y.count(0, 11), 1);
        y.row(1, 3);
        y.pay(1, 0, 0);
        y.pay(1, 1, 0);
        y.pay(1, 2, 0);
        y.draw(1);
        due.is("its lot came along", y.drawn(1, 0, 0), 2);
        due.is("the first is being made", y.count(0, 4), 0);
    }

    private static void tell() {
        due.promise(27);
        PurseRing x = new PurseRing();
        for (int i = 1; i <= 180; i++) {
            due.is("number " + i, x.tell(Long.MIN_VALUE), i);
        }
        due.is("one more than 180", x.tell(0), Rings.NONE);
        due.is("numbers", x.count(Rings.NONE, 1), 180);
    }

    private static void list(PurseRing x, long... numbers) {
        for (long n : numbers) {
            x.tell(n);
        }
    }

    private static void check() {
        due.promise(28);
        PurseRing x = Rings.payers(Rings.BID, 3);
        due.is("no round", x.check(0), Rings.NONE);
        due.is("no ring", x.check(1), -2);
        due.is("no ring", x.check(-1), -2);
        x.bid(0, 1, 4);
        Rings.payAndDraw(x, 0, 1, 2);
        x.draw(0);
        due.is("an empty list", x.check(0), -2);
        list(x, 1, 30, 4, -1, 0, 0);
        due.is("as told", x.check(0), Rings.NONE);
        due.is("it is empty then", x.count(Rings.NONE, 1), 0);
        list(x, 1, 30, 4, -1, 0);
        due.is("too few", x.check(0), -2);
        due.is("it is empty then", x.count(Rings.NONE, 1), 0);
        list(x, 1, 30, 4, -1, 0, 0, 0);
        due.is("too many", x.check(0), -2);
        list(x, 2, 30, 4, -1, 0, 0);
        due.is("who drew", x.check(0), 0);
        list(x, 1, 31, 4, -1, 0, 0);
        due.is("given", x.check(0), 0);
        list(x, 1, 30, 5, -1, 0, 1);
        due.is("the first of two", x.check(0), 0);
        list(x, 1, 30, 4, 0, 0, 0);
        due.is("who drew in round 1", x.check(0), 1);
        list(x, 1, 30, 4, -1, 4294967296L, 0);
        due.is("given in round 1", x.check(0), 1);
        list(x, 1, 30, 4, -1, 0, 1);
        due.is("bid in round 1", x.check(0), 1);
        list(x, 1, 30, 4, -1, 0, 0);
        due.is("no ring", x.check(7), -2);
        due.is("it is empty then", x.count(Rings.NONE, 1), 0);
        x.undo(0);
        list(x, 1, 30, 4);
        due.is("behind undo()", x.check(0), Rings.NONE);
        x.image(0);
        list(x, 1, 30, 4);
        due.is("of an image", x.check(1), Rings.NONE);
    }

    private static void checkOfSixtyRounds() {
        int[] holds = new int[60];
        java.util.Arrays.fill(holds, 2);
        PurseRing x = Rings.opened(Rings.ORDER, 10, 0, 0, holds);
        for (int i = 0; i < 60; i++) {
            due.is("round " + i, x.draw(0), Rings.DONE);
            list(x, -1, 0, i == 59 ? 1 : 0);
        }
        due.is("no round left", x.draw(0), Rings.PAID);
        due.is("numbers", x.count(Rings.NONE, 1), 180);
        due.is("the last round", x.check(0), 59);
        due.is("debt", x.look(0, 59, 3), 600);
        due.is("debt ahead of round 59", x.as(0, 59, 59, 3), 590);
    }
}
