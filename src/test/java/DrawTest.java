/** Promises 18 and 19: how a round ends, and what is kept of it. */
final class DrawTest {
    private static final Due due = new Due("DrawTest");

    public static void main(String[] args) {
        due.promise(18);
        statuses();
        whoIsLate();
        suretiesPutInBySeat();
        stoppedSurety();
        chestFillsUp();
        nobodyIsAble();
        byOrder();
        byLot();
        byBid();
        byNeed();
        bidIsShared();
        bidIsNotMoreThanGiven();
        nobodyToShareWith();
        claimComesFirst();
        claimOfAStoppedSurety();
        greatSums();
        due.promise(19);
        drawn();
        due.end();
    }

    private static void statuses() {
        PurseRing x = Rings.making(Rings.ORDER, 10, 0, 0, 2);
        due.is("being made", x.draw(0), Rings.STATE);
        due.is("no ring", x.draw(1), Rings.RING);
        due.is("no ring", x.draw(-1), Rings.RING);
        x.open(0);
        due.is("done", x.draw(0), Rings.DONE);
        due.is("round", x.count(0, 5), 1);
        due.is("no round left", x.draw(0), Rings.PAID);
        x.close(0);
        due.is("closed", x.draw(0), Rings.STATE);
    }

    private static void whoIsLate() {
        PurseRing x = Rings.opened(Rings.ORDER, 9, 0, 0, 2, 3, 2, 2);
        x.row(0, 3);
        x.pay(0, 0, 0);
        x.pay(0, 1, 0);
        due.is("draw", x.draw(0), Rings.DONE);
        due.is("paid all", x.look(0, 0, 3), 0);
        due.is("never late", x.look(0, 0, 10), 1);
        due.is("paid the first half", x.look(0, 1, 3), 4);
        due.is("paid nothing", x.look(0, 2, 3), 9);
        due.is("no cell", x.look(0, 3, 3), 9);
        due.is("late", x.look(0, 1, 10), 0);
        due.is("given", x.drawn(0, 0, 1), 14);
        x.draw(0);
        due.is("no row: debt grows", x.look(0, 2, 3), 18);
        due.is("also of who drew", x.look(0, 0, 3), 9);
        x.late(0, 2);
        due.is("was late once", x.look(0, 2, 10), 0);
        x.stop(0, 3);
        x.draw(0);
        due.is("stopped", x.look(0, 3, 3), 0);
        PurseRing y = Rings.opened(Rings.ORDER, 2, 0, 0, 3);
        y.row(0, 1);
        y.pay(0, 0, 1);
        y.draw(0);
        due.is("one coin is lacking", y.look(0, 0, 3), 1);
        due.is("late", y.look(0, 0, 10), 0);
    }

    private static void suretiesPutInBySeat() {
        PurseRing x = Rings.making(Rings.ORDER, 10, 0, 0, 2, 2, 4, 2);
        x.answers(0, 2, 0);
        x.answers(0, 2, 1);
        x.open(0);
        x.deposit(0, 2, 13);
        Rings.payAndDraw(x, 2);
        due.is("first debt", x.look(0, 0, 3), 0);
        due.is("late all the same", x.look(0, 0, 10), 0);
        due.is("second debt", x.look(0, 1, 3), 7);
        due.is("second claim", x.look(0, 1, 4), 3);
        due.is("without a surety", x.look(0, 3, 3), 10);
        due.is("given", x.drawn(0, 0, 1), 23);
        due.is("who draws is able then", x.drawn(0, 0, 0), 0);
        due.is("the claim comes back at once", x.look(0, 2, 5), 10);
        due.is("drew the rest", x.look(0, 0, 7), 13);
        due.is("no claim left", x.look(0, 0, 4), 0);
    }

    private static void stoppedSurety() {
        PurseRing x = Rings.making(Rings.ORDER, 10, 0, 0, 4, 2);
        x.answers(0, 0, 1);
        x.open(0);
        x.deposit(0, 0, 50);
        x.stop(0, 0);
        due.is("deposit came back", x.look(0, 0, 9), 50);
        x.replace(0, 0, 4);
        x.deposit(0, 0, 4);
        x.draw(0);
        due.is("a new one puts in", x.look(0, 1, 4), 4);
        x.stop(0, 0);
        x.draw(0);
        due.is("a stopped one does not", x.look(0, 1, 4), 4);
        due.is("debt", x.look(0, 1, 3), 16);
    }

    private static void chestFillsUp() {
        PurseRing x = Rings.opened(Rings.ORDER, 10, 0, 25, 2, 2, 2);
        Rings.payAndDraw(x, 0, 1);
        due.is("gave what was lacking", x.drawn(0, 0, 3), 10);
        due.is("given", x.drawn(0, 0, 1), 30);
        due.is("chest", x.count(0, 3), 15);
        Rings.payAndDraw(x, 1);
        due.is("gave what it had", x.drawn(0, 1, 3), 15);
        due.is("given", x.drawn(0, 1, 1), 25);
        due.is("chest is empty", x.count(0, 3), 0);
        PurseRing y = Rings.opened(Rings.ORDER, 10, 0, 5, 2, 2, 2);
        y.stop(0, 2);
        Rings.payAndDraw(y, 0, 1);
        due.is("the purse counts a stopped place", y.drawn(0, 0, 1), 25);
        due.is("who is stopped is not late", y.look(0, 2, 3), 0);
    }

    private static void nobodyIsAble() {
        PurseRing x = Rings.opened(Rings.BID, 10, 0, 7, 2, 2);
        x.bid(0, 0, 5);
        x.row(0, 1);
        x.draw(0);
        due.is("nobody", x.drawn(0, 0, 0), Rings.NONE);
        due.is("given", x.drawn(0, 0, 1), 7);
        due.is("no bid", x.drawn(0, 0, 2), 0);
        due.is("chest gave", x.drawn(0, 0, 3), 7);
        due.is("and has it again", x.count(0, 3), 7);
        due.is("nobody did draw", x.look(0, 0, 1), 0);
        due.is("round", x.count(0, 5), 1);
        for (int kind = 0; kind < 4; kind++) {
            PurseRing y = Rings.payers(kind, 2);
            y.draw(0);
            due.is("nobody by kind " + kind, y.drawn(0, 0, 0), Rings.NONE);
        }
    }

    private static void byOrder() {
        PurseRing x = Rings.making(Rings.ORDER, 10, 0, 0, 2, 2, 2, 2);
        x.order(0, 3);
        x.order(0, 1);
        x.open(0);
        Rings.payAndDraw(x, 0, 1, 2);
        due.is("the first is late", x.drawn(0, 0, 0), 1);
        x.late(0, 3);
        Rings.payAndDraw(x, 0, 1, 2, 3);
        due.is("its turn still", x.drawn(0, 1, 0), 3);
        x.stop(0, 0);
        Rings.payAndDraw(x, 1, 2, 3);
        due.is("not the stopped one", x.drawn(0, 2, 0), 2);
        x.replace(0, 0, 3);
        Rings.payAndDraw(x, 0, 1, 2, 3);
        due.is("who replaced it", x.drawn(0, 3, 0), 0);
    }

    private static void byLot() {
        PurseRing x = Rings.making(Rings.LOT, 10, 0, 0, 2, 0, 2, 2, 2);
        x.lot(0, 6);
        x.lot(0, Integer.MAX_VALUE);
        x.open(0);
        Rings.payAndDraw(x, 0, 2, 3, 4);
        due.is("6 modulo 4", x.drawn(0, 0, 0), 3);
        Rings.payAndDraw(x, 0, 2, 3, 4);
        due.is("2147483647 modulo 3", x.drawn(0, 1, 0), 2);
        Rings.payAndDraw(x, 0, 2, 3, 4);
        due.is("not told", x.drawn(0, 2, 0), 0);
        x.lot(0, 9);
        x.lot(0, 5);
        Rings.payAndDraw(x, 0, 2, 3, 4);
        due.is("of one", x.drawn(0, 3, 0), 4);
        PurseRing y = Rings.making(Rings.LOT, 10, 0, 0, 2, 2, 2);
        y.lot(0, 1);
        y.open(0);
        Rings.payAndDraw(y, 0, 2);
        due.is("only of those that are able", y.drawn(0, 0, 0), 2);
        y.late(0, 1);
        y.lot(0, 1);
        y.undo(0);
        Rings.payAndDraw(y, 0, 1, 2);
        Rings.payAndDraw(y, 0, 1, 2);
        due.is("told, but undone", y.drawn(0, 1, 0), 0);
    }

    private static void byBid() {
        PurseRing x = Rings.payers(Rings.BID, 4);
        x.bid(0, 1, 8);
        x.bid(0, 2, 9);
        x.bid(0, 3, 9);
        Rings.payAndDraw(x, 0, 1, 2, 3);
        due.is("least seat of equals", x.drawn(0, 0, 0), 2);
        x.bid(0, 1, 1);
        x.bid(0, 3, 20);
        Rings.payAndDraw(x, 0, 1, 2);
        due.is("who has debt is not able", x.drawn(0, 1, 0), 1);
        Rings.payAndDraw(x, 0, 1, 2, 3);
        due.is("nobody bid", x.drawn(0, 2, 0), 0);
        PurseRing y = Rings.payers(Rings.BID, 2);
        y.bid(0, 1, 5);
        y.stop(0, 1);
        y.replace(0, 1, 2);
        Rings.payAndDraw(y, 0, 1);
        due.is("the bid of one that stopped went", y.drawn(0, 0, 0), 0);
    }

    private static void byNeed() {
        PurseRing x = Rings.payers(Rings.NEED, 5);
        x.need(0, 4);
        x.yes(0, 0);
        x.yes(0, 1);
        x.yes(0, 2);
        Rings.payAndDraw(x, 0, 1, 2, 3);
        due.is("who asks has debt", x.drawn(0, 0, 0), 0);
        x.late(0, 4);
        x.need(0, 4);
        x.yes(0, 3);
        x.yes(0, 2);
        Rings.payAndDraw(x, 0, 1, 2, 3, 4);
        due.is("two of four", x.drawn(0, 1, 0), 1);
        x.need(0, 4);
        x.yes(0, 3);
        x.yes(0, 2);
        Rings.payAndDraw(x, 0, 1, 4);
        due.is("two of three, though they have debt", x.drawn(0, 2, 0), 4);
        x.late(0, 2);
        x.late(0, 3);
        x.need(0, 3);
        x.yes(0, 3);
        x.stop(0, 2);
        Rings.payAndDraw(x, 0, 1, 3, 4);
        due.is("a stopped one does not count", x.drawn(0, 3, 0), 3);
    }

    private static void bidIsShared() {
        PurseRing x = Rings.payers(Rings.BID, 5);
        x.bid(0, 0, 1);
        Rings.payAndDraw(x, 0, 1, 2, 3, 4);
        due.is("one coin to the least seat", x.look(0, 1, 8), 1);
        due.is("none to the next", x.look(0, 2, 8), 0);
        x.stop(0, 1);
        x.bid(0, 2, 8);
        Rings.payAndDraw(x, 0, 2, 3, 4);
        due.is("bid", x.drawn(0, 1, 2), 8);
        due.is("equal part of who drew", x.look(0, 0, 8), 2);
        due.is("none of who stopped", x.look(0, 1, 8), 1);
        due.is("none of who draws", x.look(0, 2, 8), 0);
        due.is("neither, with a coin", x.look(0, 3, 8), 3);
        due.is("neither, with a coin", x.look(0, 4, 8), 3);
        due.is("drew the rest", x.look(0, 2, 7), 32);
        x.bid(0, 4, 8);
        Rings.payAndDraw(x, 0, 2, 3, 4);
        due.is("the rest by seat", x.look(0, 0, 8), 5);
        due.is("no coin is left", x.look(0, 2, 8), 2);
        due.is("neither comes first", x.look(0, 3, 8), 6);
    }

    private static void bidIsNotMoreThanGiven() {
        PurseRing x = Rings.payers(Rings.BID, 3);
        x.bid(0, 1, 30);
        Rings.payAndDraw(x, 1);
        due.is("given", x.drawn(0, 0, 1), 10);
        due.is("bid", x.drawn(0, 0, 2), 10);
        due.is("drew nothing", x.look(0, 1, 7), 0);
        due.is("did draw", x.look(0, 1, 1), 1);
        due.is("shared", x.look(0, 0, 8), 5);
    }

    private static void nobodyToShareWith() {
        PurseRing x = Rings.payers(Rings.BID, 2);
        x.stop(0, 0);
        x.bid(0, 1, 6);
        Rings.payAndDraw(x, 1);
        due.is("bid", x.drawn(0, 0, 2), 0);
        due.is("drew all", x.look(0, 1, 7), 10);
        due.is("the stopped one has nothing", x.look(0, 0, 8), 0);
        PurseRing y = Rings.payers(Rings.BID, 2);
        y.bid(0, 1, 6);
        Rings.payAndDraw(y, 0, 1);
        due.is("one other has it all", y.look(0, 0, 8), 6);
    }

    private static void claimComesFirst() {
        PurseRing x = Rings.making(Rings.BID, 10, 0, 0, 4, 2, 2);
        x.answers(0, 0, 2);
        x.open(0);
        x.deposit(0, 0, 20);
        Rings.payAndDraw(x, 0, 1);
        due.is("claim", x.look(0, 2, 4), 10);
        due.is("deposit", x.look(0, 0, 5), 10);
        x.bid(0, 2, 25);
        Rings.payAndDraw(x, 0, 1, 2);
        due.is("given", x.drawn(0, 1, 1), 30);
        due.is("what there is behind the bid", x.look(0, 0, 5), 15);
        due.is("claim is less by that", x.look(0, 2, 4), 5);
        due.is("drew nothing", x.look(0, 2, 7), 0);
        Rings.payAndDraw(x, 0, 1);
        due.is("late behind its draw", x.look(0, 2, 4), 15);
        due.is("deposit", x.look(0, 0, 5), 5);
    }

    private static void claimOfAStoppedSurety() {
        PurseRing x = Rings.making(Rings.ORDER, 10, 0, 0, 4, 2, 2);
        x.order(0, 1);
        x.answers(0, 0, 2);
        x.open(0);
        x.deposit(0, 0, 10);
        Rings.payAndDraw(x, 0, 1);
        x.stop(0, 0);
        Rings.payAndDraw(x, 1, 2);
        due.is("drew", x.drawn(0, 1, 0), 2);
        due.is("the stopped surety has it", x.look(0, 0, 5), 10);
        due.is("drew the rest", x.look(0, 2, 7), 10);
        x.replace(0, 0, 2);
        due.is("the place keeps its deposit", x.look(0, 0, 5), 10);
        Rings.payAndDraw(x, 0, 1);
        due.is("and puts it in for its place", x.look(0, 2, 4), 10);
        due.is("all of it", x.look(0, 0, 5), 0);
    }

    private static void greatSums() {
        int[] holds = new int[60];
        java.util.Arrays.fill(holds, 2);
        PurseRing x = Rings.opened(Rings.BID, 9999999, 9999999, 2000000000, holds);
        x.row(0, 60);
        for (int i = 0; i < 60; i++) {
            x.pay(0, i, 0);
        }
        due.is("the purse", x.bid(0, 59, 599999940), Rings.DONE);
        x.draw(0);
        due.is("bid", x.drawn(0, 0, 2), 599999940);
        due.is("part and a coin", x.look(0, 0, 8), 10169491);
        x.draw(0);
        x.draw(0);
        x.draw(0);
        x.draw(0);
        for (int i = 0; i < 60; i++) {
            x.late(0, i);
        }
        due.is("chest of more than an int", x.count(0, 3), 2000000000L + 240L * 9999999 + 60L * 9999999);
        due.is("fines", x.count(0, 13), 60L * 9999999);
    }

    private static void drawn() {
        PurseRing x = Rings.opened(Rings.BID, 10, 0, 4, 2, 2, 2);
        due.is("none yet", x.drawn(0, 0, 0), Rings.NONE);
        x.bid(0, 1, 6);
        Rings.payAndDraw(x, 0, 1);
        due.is("who", x.drawn(0, 0, 0), 1);
        due.is("given", x.drawn(0, 0, 1), 24);
        due.is("bid", x.drawn(0, 0, 2), 6);
        due.is("chest gave", x.drawn(0, 0, 3), 4);
        due.is("what 4", x.drawn(0, 0, 4), Rings.NONE);
        due.is("what -1", x.drawn(0, 0, -1), Rings.NONE);
        due.is("round -1", x.drawn(0, -1, 0), Rings.NONE);
        due.is("round 1", x.drawn(0, 1, 1), Rings.NONE);
        due.is("no ring", x.drawn(1, 0, 1), Rings.NONE);
        x.draw(0);
        x.draw(0);
        x.close(0);
        due.is("closed", x.drawn(0, 0, 1), 24);
        due.is("round 3", x.drawn(0, 3, 1), Rings.NONE);
        due.is("round 60", x.drawn(0, 60, 1), Rings.NONE);
    }
}
