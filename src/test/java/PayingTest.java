/** Promises 9 to 14: deposits, rows and payments. */
final class PayingTest {
    private static final Due due = new Due("PayingTest");

    public static void main(String[] args) {
        deposit();
        row();
        tear();
        pay();
        payByHalves();
        came();
        late();
        due.end();
    }

    private static void deposit() {
        due.promise(9);
        PurseRing x = Rings.making(Rings.ORDER, 5, 0, 0, 4, 2, 3, 1, 4);
        due.is("being made", x.deposit(0, 0, 1), Rings.STATE);
        x.open(0);
        due.is("no ring", x.deposit(1, 0, 1), Rings.RING);
        due.is("no seat", x.deposit(0, 60, 1), Rings.SEAT);
        due.is("no seat", x.deposit(0, -1, 1), Rings.SEAT);
        due.is("a letter", x.deposit(0, 3, 1), Rings.SEAT);
        due.is("nothing", x.deposit(0, 5, 1), Rings.SEAT);
        due.is("a payer", x.deposit(0, 1, 0), Rings.KIND);
        due.is("a pair", x.deposit(0, 2, 1), Rings.KIND);
        due.is("sum 0", x.deposit(0, 0, 0), Rings.SIZE);
        due.is("sum below 0", x.deposit(0, 0, -1), Rings.SIZE);
        due.is("too much", x.deposit(0, 0, 100000001), Rings.SIZE);
        due.is("none came", x.look(0, 0, 5), 0);
        due.is("least", x.deposit(0, 0, 1), Rings.DONE);
        for (int i = 0; i < 30; i++) {
            due.is("most", x.deposit(0, 0, 100000000), Rings.DONE);
        }
        due.is("deposit", x.look(0, 0, 5), 3000000001L);
        x.stop(0, 1);
        due.is("stopped ahead of kind", x.deposit(0, 1, 1), Rings.STOPPED);
        x.stop(0, 4);
        due.is("stopped", x.deposit(0, 4, 0), Rings.STOPPED);
    }

    private static void row() {
        due.promise(10);
        PurseRing x = Rings.making(Rings.ORDER, 10, 0, 0, 2, 3);
        due.is("being made", x.row(0, 2), Rings.STATE);
        x.open(0);
        due.is("no ring", x.row(-1, 2), Rings.RING);
        due.is("below 0", x.row(0, -1), Rings.SIZE);
        due.is("above 60", x.row(0, 61), Rings.SIZE);
        due.is("no row yet", x.count(0, 7), Rings.NONE);
        due.is("no cells", x.row(0, 0), Rings.DONE);
        due.is("a row of none", x.count(0, 7), 0);
        due.is("60", x.row(0, 60), Rings.DONE);
        due.is("a row of 60", x.count(0, 7), 60);
        x.pay(0, 0, 0);
        x.pay(0, 1, 1);
        due.is("a wrong one changes nothing", x.row(0, 61), Rings.SIZE);
        due.is("paid", x.look(0, 0, 6), 10);
        due.is("half paid", x.look(0, 1, 6), 5);
        due.is("another row", x.row(0, 1), Rings.DONE);
        due.is("came back", x.look(0, 0, 6), 0);
        due.is("the half came back", x.look(0, 1, 6), 0);
        due.is("that is not BACK", x.look(0, 0, 9), 0);
        due.is("cell", x.came(0, 0), 0);
        due.is("may be paid again", x.pay(0, 0, 0), Rings.DONE);
        x.draw(0);
        due.is("no row behind draw()", x.count(0, 7), Rings.NONE);
        due.is("what was spent stays paid", x.look(0, 0, 6), 10);
        x.row(0, 2);
        due.is("and does not come back", x.look(0, 0, 6), 10);
        due.is("a new row's cell", x.came(0, 0), 0);
        x.draw(0);
        due.is("no round left", x.row(0, -1), Rings.PAID);
        x.close(0);
        due.is("closed", x.row(0, 2), Rings.STATE);
    }

    private static void tear() {
        due.promise(11);
        PurseRing x = Rings.making(Rings.ORDER, 10, 0, 0, 2, 2);
        due.is("being made", x.tear(0), Rings.STATE);
        x.open(0);
        due.is("no ring", x.tear(1), Rings.RING);
        due.is("no row", x.tear(0), Rings.ROW);
        x.row(0, 0);
        due.is("a row of none", x.tear(0), Rings.DONE);
        x.row(0, 2);
        x.pay(0, 1, 0);
        due.is("done", x.tear(0), Rings.DONE);
        due.is("no cells", x.count(0, 7), Rings.NONE);
        due.is("came back", x.look(0, 1, 6), 0);
        due.is("again", x.tear(0), Rings.ROW);
        x.draw(0);
        x.draw(0);
        due.is("no round left", x.tear(0), Rings.ROW);
        x.close(0);
        due.is("closed", x.tear(0), Rings.STATE);
    }

    private static void pay() {
        due.promise(12);
        PurseRing x = Rings.making(Rings.ORDER, 10, 0, 0, 2, 4, 3, 1);
        due.is("being made", x.pay(0, 0, 0), Rings.STATE);
        x.open(0);
        due.is("no ring", x.pay(1, 0, 0), Rings.RING);
        due.is("no seat", x.pay(0, 60, 0), Rings.SEAT);
        due.is("no seat", x.pay(0, -1, 0), Rings.SEAT);
        due.is("a letter", x.pay(0, 3, 0), Rings.SEAT);
        due.is("half of a payer", x.pay(0, 0, 1), Rings.KIND);
        due.is("half of a surety", x.pay(0, 1, 1), Rings.KIND);
        due.is("half 2", x.pay(0, 2, 2), Rings.SIZE);
        due.is("half -1", x.pay(0, 0, -1), Rings.SIZE);
        due.is("no row", x.pay(0, 0, 0), Rings.ROW);
        x.row(0, 2);
        due.is("the row ends", x.pay(0, 2, 1), Rings.ENDS);
        due.is("size ahead of row", x.pay(0, 2, 2), Rings.SIZE);
        due.is("the last cell", x.pay(0, 1, 0), Rings.DONE);
        due.is("again", x.pay(0, 1, 0), Rings.PAID);
        due.is("cell", x.came(0, 1), 10);
        due.is("paid", x.look(0, 1, 6), 10);
        x.stop(0, 1);
        due.is("stopped", x.pay(0, 1, 1), Rings.STOPPED);
        due.is("nobody else paid", x.look(0, 0, 6), 0);
    }

    private static void payByHalves() {
        PurseRing x = Rings.opened(Rings.ORDER, 7, 0, 0, 3);
        x.row(0, 1);
        due.is("second half first", x.pay(0, 0, 1), Rings.DONE);
        due.is("cut", x.came(0, 0), 3);
        due.is("again", x.pay(0, 0, 1), Rings.PAID);
        due.is("first half", x.pay(0, 0, 0), Rings.DONE);
        due.is("whole", x.came(0, 0), 7);
        due.is("again", x.pay(0, 0, 0), Rings.PAID);
        due.is("paid", x.look(0, 0, 6), 7);
        PurseRing y = Rings.opened(Rings.ORDER, 1, 0, 0, 3);
        y.row(0, 1);
        due.is("a half of no coins", y.pay(0, 0, 1), Rings.DONE);
        due.is("is none", y.came(0, 0), 0);
        due.is("has been done", y.pay(0, 0, 1), Rings.PAID);
        due.is("the half of one", y.pay(0, 0, 0), Rings.DONE);
        due.is("is all", y.came(0, 0), 1);
    }

    private static void came() {
        due.promise(13);
        PurseRing x = Rings.making(Rings.ORDER, 9, 0, 0, 2, 0, 2);
        due.is("being made", x.came(0, 0), Rings.NONE);
        x.open(0);
        due.is("no row", x.came(0, 0), Rings.NONE);
        x.row(0, 2);
        due.is("nothing yet", x.came(0, 0), 0);
        due.is("a cell of no place", x.came(0, 1), 0);
        due.is("the row ends", x.came(0, 2), Rings.NONE);
        x.pay(0, 0, 0);
        due.is("paid", x.came(0, 0), 9);
        due.is("no ring", x.came(1, 0), Rings.NONE);
        x.row(0, 60);
        due.is("the last", x.came(0, 59), 0);
        due.is("no seat", x.came(0, 60), Rings.NONE);
        due.is("no seat", x.came(0, -1), Rings.NONE);
        x.draw(0);
        due.is("behind draw()", x.came(0, 0), Rings.NONE);
    }

    private static void late() {
        due.promise(14);
        PurseRing x = Rings.making(Rings.ORDER, 10, 4, 0, 2, 2, 1);
        due.is("being made", x.late(0, 0), Rings.STATE);
        x.open(0);
        due.is("no ring", x.late(1, 0), Rings.RING);
        due.is("no seat", x.late(0, 60), Rings.SEAT);
        due.is("a letter", x.late(0, 2), Rings.SEAT);
        due.is("no debt", x.late(0, 0), Rings.PAID);
        Rings.payAndDraw(x, 0);
        due.is("debt", x.look(0, 1, 3), 10);
        due.is("done", x.late(0, 1), Rings.DONE);
        due.is("debt is 0", x.look(0, 1, 3), 0);
        due.is("paid without the fine", x.look(0, 1, 6), 10);
        due.is("chest", x.count(0, 3), 14);
        due.is("fines", x.count(0, 13), 4);
        due.is("again", x.late(0, 1), Rings.PAID);
        x.draw(0);
        due.is("behind the last round", x.late(0, 0), Rings.DONE);
        due.is("fines", x.count(0, 13), 8);
        x.stop(0, 1);
        due.is("stopped", x.late(0, 1), Rings.STOPPED);
        x.close(0);
        due.is("closed", x.late(0, 0), Rings.STATE);
    }
}
