/** Promises 15 to 17: bids, who asks and who says yes. */
final class WishingTest {
    private static final Due due = new Due("WishingTest");

    public static void main(String[] args) {
        bid();
        need();
        yes();
        yesWithoutOneWhoAsks();
        due.end();
    }

    private static void bid() {
        due.promise(15);
        PurseRing x = Rings.making(Rings.BID, 10, 0, 0, 2, 2, 2, 1);
        due.is("being made", x.bid(0, 0, 1), Rings.STATE);
        x.open(0);
        due.is("no ring", x.bid(1, 0, 1), Rings.RING);
        due.is("no seat", x.bid(0, 60, -1), Rings.SEAT);
        due.is("a letter", x.bid(0, 3, 1), Rings.SEAT);
        due.is("below 0", x.bid(0, 0, -1), Rings.SIZE);
        due.is("below 0", x.bid(0, 0, Long.MIN_VALUE), Rings.SIZE);
        due.is("above the purse", x.bid(0, 0, 31), Rings.SIZE);
        due.is("more than an int", x.bid(0, 0, 4294967296L), Rings.SIZE);
        due.is("the purse", x.bid(0, 2, 30), Rings.DONE);
        due.is("0", x.bid(0, 0, 0), Rings.DONE);
        due.is("in place of it", x.bid(0, 2, 1), Rings.DONE);
        due.is("more", x.bid(0, 1, 2), Rings.DONE);
        Rings.payAndDraw(x, 0, 1, 2);
        due.is("who bid most", x.drawn(0, 0, 0), 1);
        due.is("did draw", x.bid(0, 1, -1), Rings.PAID);
        Rings.payAndDraw(x, 0, 1, 2);
        due.is("no bid holds longer", x.drawn(0, 1, 0), 0);
        due.is("no bid", x.drawn(0, 1, 2), 0);
        x.stop(0, 0);
        due.is("stopped ahead of drawn", x.bid(0, 0, 1), Rings.STOPPED);
        due.is("not by bid, no seat", Rings.payers(Rings.NEED, 2).bid(0, 60, 1), Rings.KIND);
        x.draw(0);
        x.close(0);
        due.is("closed", x.bid(0, 2, 1), Rings.STATE);
    }

    private static void need() {
        due.promise(16);
        PurseRing x = Rings.making(Rings.NEED, 10, 0, 0, 2, 2, 2);
        due.is("being made", x.need(0, 0), Rings.STATE);
        x.open(0);
        due.is("no ring", x.need(1, 0), Rings.RING);
        due.is("no seat", x.need(0, 3), Rings.SEAT);
        due.is("no seat", x.need(0, -1), Rings.SEAT);
        due.is("nobody asks", x.count(0, 9), Rings.NONE);
        due.is("done", x.need(0, 2), Rings.DONE);
        due.is("who asks", x.count(0, 9), 2);
        x.yes(0, 0);
        x.yes(0, 2);
        due.is("another asks", x.need(0, 1), Rings.DONE);
        due.is("nobody said yes", x.count(0, 10), 0);
        x.yes(0, 0);
        due.is("asks again", x.need(0, 1), Rings.DONE);
        due.is("nobody said yes", x.count(0, 10), 0);
        x.yes(0, 0);
        x.yes(0, 1);
        Rings.payAndDraw(x, 0, 1, 2);
        due.is("drew", x.drawn(0, 0, 0), 1);
        due.is("nobody asks any more", x.count(0, 9), Rings.NONE);
        due.is("did draw", x.need(0, 1), Rings.PAID);
        x.stop(0, 1);
        due.is("stopped ahead of drawn", x.need(0, 1), Rings.STOPPED);
        due.is("not by need, no seat", Rings.payers(Rings.LOT, 2).need(0, 60), Rings.KIND);
    }

    private static void yes() {
        due.promise(17);
        PurseRing x = Rings.making(Rings.NEED, 10, 0, 0, 2, 2, 2, 2);
        due.is("being made", x.yes(0, 0), Rings.STATE);
        x.open(0);
        due.is("no ring", x.yes(1, 0), Rings.RING);
        due.is("nobody asks", x.yes(0, 0), Rings.SEAT);
        x.need(0, 3);
        due.is("no seat", x.yes(0, 4), Rings.SEAT);
        due.is("who asks says so, too", x.yes(0, 3), Rings.DONE);
        due.is("again", x.yes(0, 3), Rings.PAID);
        due.is("another one", x.yes(0, 1), Rings.DONE);
        due.is("how many", x.count(0, 10), 2);
        Rings.payAndDraw(x, 0, 1, 2, 3);
        due.is("half is not more than half", x.drawn(0, 0, 0), 0);
        due.is("for that round alone", x.count(0, 10), 0);
        x.need(0, 3);
        due.is("did draw", x.yes(0, 0), Rings.PAID);
        x.yes(0, 1);
        x.yes(0, 2);
        Rings.payAndDraw(x, 0, 1, 2, 3);
        due.is("two of three", x.drawn(0, 1, 0), 3);
        x.need(0, 1);
        x.stop(0, 0);
        due.is("stopped", x.yes(0, 0), Rings.STOPPED);
        due.is("not by need", Rings.payers(Rings.ORDER, 2).yes(0, 60), Rings.KIND);
    }

    private static void yesWithoutOneWhoAsks() {
        PurseRing x = Rings.payers(Rings.NEED, 3);
        x.need(0, 2);
        x.yes(0, 0);
        x.yes(0, 1);
        x.stop(0, 1);
        due.is("the yes of one that stops goes", x.count(0, 10), 1);
        x.stop(0, 2);
        due.is("nobody asks", x.count(0, 9), Rings.NONE);
        due.is("the yes of another stays", x.count(0, 10), 1);
        due.is("but nobody asks", x.yes(0, 0), Rings.SEAT);
        due.is("nobody asks, and it is stopped", x.yes(0, 2), Rings.SEAT);
        x.replace(0, 1, 2);
        due.is("a new one has not said yes", x.count(0, 10), 1);
        x.need(0, 1);
        due.is("a new one may say yes", x.yes(0, 1), Rings.DONE);
    }
}
