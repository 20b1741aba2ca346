/** Promises 20 to 24: stopping, replacing, closing, and whether a ring was fair. */
final class StopTest {
    private static final Due due = new Due("StopTest");

    public static void main(String[] args) {
        stop();
        stopOfOneThatDrew();
        stopInARound();
        replace();
        stops();
        close();
        closePaysStopsInOrder();
        closeWithoutOneThatIsFull();
        fair();
        due.end();
    }

    private static void stop() {
        due.promise(20);
        PurseRing x = Rings.making(Rings.ORDER, 10, 4, 0, 2, 2, 2, 1, 4);
        due.is("being made", x.stop(0, 0), Rings.STATE);
        x.open(0);
        due.is("no ring", x.stop(1, 0), Rings.RING);
        due.is("no seat", x.stop(0, 60), Rings.SEAT);
        due.is("no seat", x.stop(0, -1), Rings.SEAT);
        due.is("a letter", x.stop(0, 3), Rings.SEAT);
        x.deposit(0, 4, 33);
        due.is("ahead of all rounds", x.stop(0, 2), Rings.DONE);
        due.is("again", x.stop(0, 2), Rings.STOPPED);
        due.is("stopped", x.look(0, 2, 2), 1);
        due.is("not full", x.look(0, 2, 10), 0);
        due.is("owed is at least 0", x.stops(0, 0, 2), 0);
        Rings.payAndDraw(x, 0, 1, 4);
        Rings.payAndDraw(x, 0, 1, 4);
        due.is("drew", x.drawn(0, 1, 0), 1);
        due.is("surety stops", x.stop(0, 4), Rings.DONE);
        due.is("deposit comes back", x.look(0, 4, 9), 33);
        due.is("deposit", x.look(0, 4, 5), 0);
        due.is("owed less the fine", x.stops(0, 1, 2), 16);
        due.is("owes nothing", x.stops(0, 1, 3), 0);
        due.is("places", x.count(0, 6), 4);
        due.is("stops", x.count(0, 8), 2);
        x.draw(0);
        x.draw(0);
        due.is("behind the last round", x.stop(0, 1), Rings.DONE);
        x.close(0);
        due.is("closed", x.stop(0, 0), Rings.STATE);
    }

    private static void stopOfOneThatDrew() {
        PurseRing x = Rings.payers(Rings.ORDER, 4);
        Rings.payAndDraw(x, 0, 1, 2, 3);
        Rings.payAndDraw(x, 2, 3);
        due.is("debt", x.look(0, 0, 3), 10);
        x.stop(0, 0);
        due.is("owed", x.stops(0, 0, 2), 0);
        due.is("owes two rounds and its debt", x.stops(0, 0, 3), 30);
        due.is("debt is 0", x.look(0, 0, 3), 0);
        due.is("did draw", x.look(0, 0, 1), 1);
        due.is("paid stays", x.look(0, 0, 6), 10);
        due.is("coins stay", x.look(0, 0, 7), 40);
        x.stop(0, 1);
        due.is("with debt, but did not draw", x.stops(0, 1, 3), 0);
        due.is("owed", x.stops(0, 1, 2), 7);
    }

    private static void stopInARound() {
        PurseRing x = Rings.payers(Rings.NEED, 3);
        x.row(0, 3);
        x.pay(0, 0, 0);
        x.pay(0, 1, 0);
        x.need(0, 0);
        x.yes(0, 0);
        x.yes(0, 1);
        x.stop(0, 0);
        due.is("cell", x.came(0, 0), 0);
        due.is("paid", x.look(0, 0, 6), 0);
        due.is("that is not BACK", x.look(0, 0, 9), 0);
        due.is("nobody asks", x.count(0, 9), Rings.NONE);
        due.is("its yes goes", x.count(0, 10), 1);
        due.is("another one's cell stays", x.came(0, 1), 10);
        due.is("owed nothing of this round", x.stops(0, 0, 2), 0);
        x.replace(0, 0, 2);
        due.is("may be paid again", x.pay(0, 0, 0), Rings.DONE);
        x.need(0, 1);
        x.stop(0, 2);
        due.is("another one asks still", x.count(0, 9), 1);
    }

    private static void replace() {
        due.promise(21);
        PurseRing x = Rings.making(Rings.BID, 10, 0, 0, 4, 2, 2);
        due.is("being made", x.replace(0, 0, 2), Rings.STATE);
        x.answers(0, 0, 1);
        x.open(0);
        x.deposit(0, 0, 50);
        due.is("no ring", x.replace(1, 0, 2), Rings.RING);
        due.is("no seat", x.replace(0, 3, 2), Rings.SEAT);
        due.is("not stopped", x.replace(0, 0, 9), Rings.PAID);
        x.bid(0, 2, 4);
        Rings.payAndDraw(x, 0, 2);
        x.bid(0, 1, 9);
        Rings.payAndDraw(x, 0, 2);
        due.is("drew", x.drawn(0, 1, 0), 1);
        Rings.payAndDraw(x, 0, 2);
        x.stop(0, 1);
        due.is("claim stays while stopped", x.look(0, 1, 4), 10);
        due.is("by a letter", x.replace(0, 1, 1), Rings.KIND);
        due.is("by 5", x.replace(0, 1, 5), Rings.KIND);
        due.is("still stopped", x.look(0, 1, 2), 1);
        due.is("by a pair", x.replace(0, 1, 3), Rings.DONE);
        due.is("again", x.replace(0, 1, 3), Rings.PAID);
        due.is("holds", x.look(0, 1, 0), 3);
        due.is("did draw", x.look(0, 1, 1), 1);
        due.is("not stopped any more", x.look(0, 1, 2), 0);
        for (int what = 3; what <= 10; what++) {
            due.is("look " + what, x.look(0, 1, what), 0);
        }
        due.is("its surety", x.look(0, 1, 11), 0);
        due.is("places", x.count(0, 6), 3);
        x.stop(0, 2);
        due.is("by a surety", x.replace(0, 2, 4), Rings.DONE);
        due.is("which may deposit", x.deposit(0, 2, 3), Rings.DONE);
        x.stop(0, 2);
        due.is("got back", x.look(0, 2, 9), 3);
        due.is("by a payer", x.replace(0, 2, 2), Rings.DONE);
        due.is("begins anew", x.look(0, 2, 9), 0);
        due.is("had paid", x.look(0, 0, 6), 30);
        due.is("was shared", x.look(0, 0, 8), 7);
        x.stop(0, 0);
        due.is("paid stays while stopped", x.look(0, 0, 6), 30);
        x.replace(0, 0, 4);
        due.is("has not paid", x.look(0, 0, 6), 0);
        due.is("was not shared", x.look(0, 0, 8), 0);
        due.is("did not draw in coins", x.look(0, 0, 7), 0);
        due.is("did not get back", x.look(0, 0, 9), 0);
        x.close(0);
        due.is("closed", x.replace(0, 2, 2), Rings.STATE);
    }

    private static void stops() {
        due.promise(22);
        PurseRing x = Rings.payers(Rings.ORDER, 3);
        due.is("none", x.stops(0, 0, 0), Rings.NONE);
        Rings.payAndDraw(x, 0, 1, 2);
        Rings.payAndDraw(x, 0, 1, 2);
        x.stop(0, 2);
        x.stop(0, 0);
        due.is("seat", x.stops(0, 0, 0), 2);
        due.is("round", x.stops(0, 0, 1), 2);
        due.is("owed", x.stops(0, 0, 2), 17);
        due.is("owes", x.stops(0, 0, 3), 0);
        due.is("unpaid ahead of closing", x.stops(0, 0, 4), 0);
        due.is("what 5", x.stops(0, 0, 5), Rings.NONE);
        due.is("what -1", x.stops(0, 0, -1), Rings.NONE);
        due.is("the next seat", x.stops(0, 1, 0), 0);
        due.is("owes", x.stops(0, 1, 3), 10);
        due.is("stop 2", x.stops(0, 2, 0), Rings.NONE);
        due.is("stop -1", x.stops(0, -1, 0), Rings.NONE);
        due.is("no ring", x.stops(1, 0, 0), Rings.NONE);
        x.draw(0);
        x.close(0);
        due.is("unpaid", x.stops(0, 0, 4), 17);
        due.is("unpaid of one that owes", x.stops(0, 1, 4), 0);
        PurseRing y = Rings.payers(Rings.ORDER, 1);
        for (int i = 0; i < 250; i++) {
            y.stop(0, 0);
            y.replace(0, 0, 2);
        }
        due.is("stops", y.count(0, 8), 250);
        due.is("the last", y.stops(0, 249, 0), 0);
        due.is("one more", y.stops(0, 250, 0), Rings.NONE);
    }

    private static void close() {
        due.promise(23);
        PurseRing x = Rings.making(Rings.ORDER, 10, 0, 0, 2, 4, 2);
        due.is("being made", x.close(0), Rings.STATE);
        x.open(0);
        due.is("no ring", x.close(1), Rings.RING);
        due.is("a round is left", x.close(0), Rings.PAID);
        x.deposit(0, 1, 8);
        x.draw(0);
        x.draw(0);
        due.is("a round is left", x.close(0), Rings.PAID);
        x.draw(0);
        due.is("done", x.close(0), Rings.DONE);
        due.is("state", x.count(0, 4), 2);
        due.is("deposit", x.look(0, 1, 5), 0);
        due.is("came back", x.look(0, 1, 9), 8);
        due.is("again", x.close(0), Rings.STATE);
        PurseRing y = Rings.opened(Rings.ORDER, 10, 0, 17, 2, 2, 2, 2, 2);
        for (int i = 0; i < 4; i++) {
            Rings.payAndDraw(y, 0, 1, 2, 3, 4);
        }
        Rings.payAndDraw(y, 0, 2, 3, 4);
        due.is("chest", y.count(0, 3), 7);
        y.late(0, 1);
        due.is("chest", y.count(0, 3), 17);
        y.close(0);
        due.is("part and a coin", y.look(0, 0, 9), 5);
        due.is("was late", y.look(0, 1, 9), 0);
        due.is("part", y.look(0, 2, 9), 4);
        due.is("part", y.look(0, 3, 9), 4);
        due.is("part", y.look(0, 4, 9), 4);
        due.is("chest is empty", y.count(0, 3), 0);
        PurseRing z = Rings.opened(Rings.ORDER, 10, 0, 12, 2, 2);
        Rings.payAndDraw(z, 0);
        Rings.payAndDraw(z, 0, 1);
        z.close(0);
        due.is("one alone has all", z.look(0, 0, 9), 22);
        due.is("chest is empty", z.count(0, 3), 0);
    }

    private static void closePaysStopsInOrder() {
        PurseRing x = Rings.opened(Rings.ORDER, 10, 2, 20, 2, 2, 2, 2);
        Rings.payAndDraw(x, 0, 1, 2, 3);
        Rings.payAndDraw(x, 0, 1, 2, 3);
        x.stop(0, 3);
        x.stop(0, 2);
        x.stop(0, 0);
        x.replace(0, 2, 2);
        Rings.payAndDraw(x, 1, 2);
        due.is("chest gave all", x.count(0, 3), 0);
        x.draw(0);
        x.late(0, 1);
        x.late(0, 2);
        due.is("chest", x.count(0, 3), 24);
        x.close(0);
        due.is("owed", x.stops(0, 0, 2), 18);
        due.is("paid", x.stops(0, 0, 4), 0);
        due.is("owed", x.stops(0, 1, 2), 18);
        due.is("unpaid", x.stops(0, 1, 4), 12);
        due.is("owes", x.stops(0, 2, 3), 20);
        due.is("unpaid", x.stops(0, 2, 4), 0);
        due.is("chest", x.count(0, 3), 0);
        due.is("the place has nothing of it", x.look(0, 3, 9), 0);
    }

    private static void closeWithoutOneThatIsFull() {
        PurseRing x = Rings.opened(Rings.ORDER, 10, 0, 5, 2, 4);
        x.stop(0, 1);
        x.replace(0, 1, 4);
        x.draw(0);
        x.draw(0);
        due.is("close", x.close(0), Rings.DONE);
        due.is("chest stays", x.count(0, 3), 5);
        due.is("nothing back", x.look(0, 0, 9), 0);
    }

    private static void fair() {
        due.promise(24);
        PurseRing x = Rings.making(Rings.ORDER, 10, 0, 0, 2, 2, 2);
        due.is("no ring", x.fair(1), Rings.NONE);
        due.is("being made", x.fair(0), Rings.NONE);
        x.open(0);
        due.is("nobody drew yet", x.fair(0), 1);
        Rings.payAndDraw(x, 0, 1);
        due.is("drew less", x.fair(0), 0);
        x.draw(0);
        due.is("it is not full now", x.fair(0), 1);
        x.draw(0);
        x.close(0);
        due.is("closed", x.fair(0), 1);
        PurseRing y = Rings.payers(Rings.ORDER, 2);
        Rings.payAndDraw(y, 0, 1);
        due.is("drew the purse", y.fair(0), 1);
        Rings.payAndDraw(y, 0, 1);
        y.close(0);
        due.is("closed", y.fair(0), 1);
        PurseRing z = Rings.payers(Rings.ORDER, 2);
        z.stop(0, 0);
        z.replace(0, 0, 2);
        due.is("a stop", z.fair(0), Rings.NONE);
        for (int kind = 1; kind < 4; kind++) {
            due.is("kind " + kind, Rings.payers(kind, 2).fair(0), Rings.NONE);
        }
        PurseRing w = Rings.opened(Rings.ORDER, 10, 0, 0, 2, 2);
        Rings.payAndDraw(w, 0);
        w.close(0);
        Rings.payAndDraw(w, 0);
        w.close(0);
        due.is("closed, and one drew less", w.fair(0), 0);
    }
}
