/** Promises 1 to 8: a ring being made, and its opening. */
final class MakingTest {
    private static final Due due = new Due("MakingTest");

    public static void main(String[] args) {
        newObject();
        ring();
        seat();
        letter();
        answers();
        order();
        lot();
        open();
        whatIsToldStaysWithTheSeat();
        due.end();
    }

    private static void newObject() {
        due.promise(1);
        PurseRing x = new PurseRing();
        due.is("rings", x.count(Rings.NONE, 0), 0);
        due.is("numbers on the list", x.count(Rings.NONE, 1), 0);
        due.is("a ring that is not there", x.count(0, 0), Rings.NONE);
        due.is("NONE", PurseRing.NONE, -1);
    }

    private static void ring() {
        due.promise(2);
        PurseRing x = new PurseRing();
        due.is("kind -1", x.ring(-1, 1, 0, 0), Rings.NONE);
        due.is("kind 4", x.ring(4, 1, 0, 0), Rings.NONE);
        due.is("payment 0", x.ring(0, 0, 0, 0), Rings.NONE);
        due.is("payment 10000000", x.ring(0, 10000000, 0, 0), Rings.NONE);
        due.is("fine -1", x.ring(0, 1, -1, 0), Rings.NONE);
        due.is("fine 10000000", x.ring(0, 1, 10000000, 0), Rings.NONE);
        due.is("chest -1", x.ring(0, 1, 0, -1), Rings.NONE);
        due.is("chest 2000000001", x.ring(0, 1, 0, 2000000001), Rings.NONE);
        due.is("least", x.ring(0, 1, 0, 0), 0);
        due.is("most", x.ring(3, 9999999, 9999999, 2000000000), 1);
        due.is("kind", x.count(1, 0), 3);
        due.is("payment", x.count(1, 1), 9999999);
        due.is("fine", x.count(1, 2), 9999999);
        due.is("chest", x.count(1, 3), 2000000000);
        due.is("state", x.count(1, 4), 0);
        due.is("round", x.count(1, 5), 0);
        due.is("nothing on a seat", x.look(1, 59, 0), 0);
        for (int i = 2; i < 40; i++) {
            due.is("ring " + i, x.ring(i % 4, 1, 0, 0), i);
        }
        due.is("one more than 40", x.ring(0, 1, 0, 0), Rings.NONE);
        due.is("rings", x.count(Rings.NONE, 0), 40);
    }

    private static void seat() {
        due.promise(3);
        PurseRing x = Rings.making(Rings.ORDER, 5, 0, 0);
        due.is("no ring -1", x.seat(-1, 0, 2, 0), Rings.RING);
        due.is("no ring 1", x.seat(1, 0, 2, 0), Rings.RING);
        due.is("no seat -1", x.seat(0, -1, 2, 0), Rings.SEAT);
        due.is("no seat 60", x.seat(0, 60, 9, 0), Rings.SEAT);
        due.is("what -1", x.seat(0, 0, -1, 0), Rings.KIND);
        due.is("what 5", x.seat(0, 0, 5, 0), Rings.KIND);
        for (int what = 4; what >= 0; what--) {
            due.is("what " + what, x.seat(0, 59, what, 1), Rings.DONE);
            due.is("holds " + what, x.look(0, 59, 0), what);
        }
        x.seat(0, 0, 2, 0);
        x.open(0);
        due.is("open, and no seat", x.seat(0, 60, 2, 0), Rings.STATE);
        due.is("what a refused call left", x.look(0, 1, 0), 0);
    }

    private static void letter() {
        due.promise(4);
        PurseRing x = Rings.making(Rings.ORDER, 5, 0, 0);
        x.seat(0, 3, 1, Integer.MIN_VALUE);
        x.seat(0, 4, 2, 77);
        due.is("letter", x.letter(0, 3), Integer.MIN_VALUE);
        due.is("a payer has none", x.letter(0, 4), 0);
        due.is("nothing there", x.letter(0, 5), 0);
        due.is("no seat -1", x.letter(0, -1), 0);
        due.is("no seat 60", x.letter(0, 60), 0);
        due.is("no ring", x.letter(1, 3), 0);
        due.is("no ring -1", x.letter(-1, 3), 0);
        x.open(0);
        due.is("still there behind open()", x.letter(0, 3), Integer.MIN_VALUE);
        PurseRing y = Rings.making(Rings.ORDER, 5, 0, 0, 1);
        y.seat(0, 0, 1, 12);
        due.is("another letter", y.letter(0, 0), 12);
        y.seat(0, 0, 0, 12);
        due.is("taken away", y.letter(0, 0), 0);
    }

    private static void answers() {
        due.promise(5);
        PurseRing x = Rings.making(Rings.ORDER, 5, 0, 0, 4, 2, 1, 0, 4, 3);
        due.is("no ring", x.answers(1, 0, 1), Rings.RING);
        due.is("no seat surety", x.answers(0, -1, 1), Rings.SEAT);
        due.is("no seat surety", x.answers(0, 60, 1), Rings.SEAT);
        due.is("nothing on it", x.answers(0, 3, 1), Rings.SEAT);
        due.is("a letter is no surety", x.answers(0, 2, 60), Rings.KIND);
        due.is("a payer is no surety", x.answers(0, 1, 0), Rings.KIND);
        due.is("a pair is no surety", x.answers(0, 5, 0), Rings.KIND);
        due.is("no seat", x.answers(0, 0, 60), Rings.SEAT);
        due.is("no seat", x.answers(0, 0, -1), Rings.SEAT);
        due.is("nobody there", x.answers(0, 0, 3), Rings.SEAT);
        due.is("a letter there", x.answers(0, 0, 2), Rings.SEAT);
        due.is("the same", x.answers(0, 0, 0), Rings.SEAT);
        due.is("done", x.answers(0, 0, 1), Rings.DONE);
        due.is("ahead of open()", x.look(0, 1, 11), 0);
        due.is("again", x.answers(0, 0, 1), Rings.PAID);
        due.is("another one", x.answers(0, 4, 1), Rings.DONE);
        due.is("the other one", x.look(0, 1, 11), 4);
        due.is("of a surety", x.answers(0, 4, 0), Rings.DONE);
        due.is("each of the other", x.answers(0, 0, 4), Rings.DONE);
        due.is("without", x.look(0, 5, 11), Rings.NONE);
        x.open(0);
        due.is("open", x.answers(0, 0, 5), Rings.STATE);
    }

    private static void order() {
        due.promise(6);
        PurseRing x = Rings.making(Rings.ORDER, 5, 0, 0, 2, 3, 4, 1);
        due.is("no ring", x.order(1, 0), Rings.RING);
        due.is("no seat", x.order(0, -1), Rings.SEAT);
        due.is("no seat", x.order(0, 60), Rings.SEAT);
        due.is("a letter", x.order(0, 3), Rings.SEAT);
        due.is("nothing", x.order(0, 4), Rings.SEAT);
        due.is("done", x.order(0, 2), Rings.DONE);
        due.is("again", x.order(0, 2), Rings.PAID);
        due.is("next", x.order(0, 0), Rings.DONE);
        x.open(0);
        due.is("open", x.order(0, 1), Rings.STATE);
        PurseRing y = Rings.making(Rings.BID, 5, 0, 0, 2);
        due.is("by bid, nobody there", y.order(0, 1), Rings.SEAT);
        due.is("by bid", y.order(0, 0), Rings.KIND);
        Rings.payAndDraw(x, 0, 1, 2);
        Rings.payAndDraw(x, 0, 1, 2);
        Rings.payAndDraw(x, 0, 1, 2);
        due.is("first told", x.drawn(0, 0, 0), 2);
        due.is("second told", x.drawn(0, 1, 0), 0);
        due.is("not told", x.drawn(0, 2, 0), 1);
    }

    private static void lot() {
        due.promise(7);
        PurseRing x = Rings.making(Rings.LOT, 5, 0, 0, 2);
        due.is("no ring", x.lot(1, 0), Rings.RING);
        due.is("below 0", x.lot(0, -1), Rings.SIZE);
        for (int i = 0; i < 59; i++) {
            due.is("number " + i, x.lot(0, Integer.MAX_VALUE), Rings.DONE);
        }
        due.is("numbers", x.count(0, 11), 59);
        x.open(0);
        due.is("open", x.lot(0, 0), Rings.DONE);
        due.is("one more than 60", x.lot(0, 0), Rings.FULL);
        due.is("below 0 comes first", x.lot(0, Integer.MIN_VALUE), Rings.SIZE);
        due.is("numbers", x.count(0, 11), 60);
        x.draw(0);
        x.close(0);
        due.is("closed", x.lot(0, -1), Rings.STATE);
        due.is("not by lot", Rings.making(Rings.NEED, 5, 0, 0, 2).lot(0, -1), Rings.KIND);
    }

    private static void open() {
        due.promise(8);
        PurseRing x = Rings.making(Rings.ORDER, 5, 0, 0, 1, 0);
        due.is("no ring", x.open(1), Rings.RING);
        due.is("no member", x.open(0), Rings.SEAT);
        due.is("still being made", x.count(0, 4), 0);
        x.seat(0, 59, 3, 0);
        due.is("places ahead of open()", x.count(0, 6), 0);
        due.is("done", x.open(0), Rings.DONE);
        due.is("again", x.open(0), Rings.STATE);
        due.is("state", x.count(0, 4), 1);
        due.is("places", x.count(0, 6), 1);
        due.is("full at first", x.look(0, 59, 10), 1);
        x.draw(0);
        x.close(0);
        due.is("closed", x.open(0), Rings.STATE);
    }

    private static void whatIsToldStaysWithTheSeat() {
        PurseRing x = Rings.making(Rings.ORDER, 5, 0, 0, 4, 2, 2, 4, 2);
        x.answers(0, 0, 1);
        x.answers(0, 0, 2);
        x.answers(0, 3, 4);
        x.order(0, 2);
        x.order(0, 1);
        x.seat(0, 2, 0, 0);
        x.seat(0, 3, 2, 0);
        due.is("told of an empty seat", x.look(0, 2, 11), 0);
        x.seat(0, 1, 0, 0);
        x.seat(0, 1, 3, 0);
        due.is("told already", x.order(0, 1), Rings.PAID);
        due.is("answered for already", x.answers(0, 0, 1), Rings.PAID);
        x.open(0);
        due.is("of a member by a surety", x.look(0, 1, 11), 0);
        due.is("nobody there", x.look(0, 2, 11), Rings.NONE);
        due.is("no surety there", x.look(0, 4, 11), Rings.NONE);
        Rings.payAndDraw(x, 0, 1, 3, 4);
        due.is("first of those that are there", x.drawn(0, 0, 0), 1);
    }
}
