/** Promises 29 to 31: what can be seen of seats, of earlier rounds, and of a ring. */
final class LookTest {
    private static final Due due = new Due("LookTest");

    public static void main(String[] args) {
        look();
        lookBeingMade();
        as();
        count();
        countOfAll();
        due.end();
    }

    private static void look() {
        due.promise(29);
        PurseRing x = Rings.making(Rings.BID, 10, 3, 0, 4, 2, 3, 1);
        x.answers(0, 0, 1);
        x.open(0);
        for (int what = 1; what <= 9; what++) {
            due.is("at first " + what, x.look(0, 1, what), 0);
        }
        due.is("full at first", x.look(0, 1, 10), 1);
        x.deposit(0, 0, 13);
        x.bid(0, 2, 5);
        Rings.payAndDraw(x, 0, 2);
        long[] of0 = {4, 0, 0, 0, 0, 3, 10, 0, 3, 0, 1, -1};
        long[] of1 = {2, 0, 0, 0, 10, 0, 0, 0, 2, 0, 0, 0};
        long[] of2 = {3, 1, 0, 0, 0, 0, 10, 25, 0, 0, 1, -1};
        for (int what = 0; what < 12; what++) {
            due.is("of seat 0: " + what, x.look(0, 0, what), of0[what]);
            due.is("of seat 1: " + what, x.look(0, 1, what), of1[what]);
            due.is("of seat 2: " + what, x.look(0, 2, what), of2[what]);
        }
        due.is("a letter", x.look(0, 3, 0), 1);
        due.is("nothing", x.look(0, 4, 0), 0);
        for (int what = 1; what <= 11; what++) {
            due.is("no place: " + what, x.look(0, 3, what), Rings.NONE);
            due.is("no seat: " + what, x.look(0, 60, what), Rings.NONE);
        }
        due.is("no seat", x.look(0, -1, 0), Rings.NONE);
        due.is("no ring", x.look(1, 0, 0), Rings.NONE);
        due.is("what 12", x.look(0, 0, 12), Rings.NONE);
        due.is("what -1", x.look(0, 0, -1), Rings.NONE);
        x.stop(0, 0);
        due.is("stopped", x.look(0, 0, 2), 1);
        due.is("back", x.look(0, 0, 9), 3);
        x.draw(0);
        due.is("debt", x.look(0, 2, 3), 10);
    }

    private static void lookBeingMade() {
        PurseRing x = Rings.making(Rings.ORDER, 10, 3, 0, 4, 2);
        x.answers(0, 0, 1);
        due.is("holds", x.look(0, 0, 0), 4);
        for (int what = 1; what <= 10; what++) {
            due.is("no place yet: " + what, x.look(0, 0, what), Rings.NONE);
        }
        due.is("its surety", x.look(0, 1, 11), 0);
        due.is("without", x.look(0, 0, 11), Rings.NONE);
    }

    private static void as() {
        due.promise(30);
        PurseRing x = Rings.making(Rings.ORDER, 10, 3, 0, 4, 3, 1);
        x.answers(0, 0, 1);
        due.is("being made", x.as(0, 0, 0, 0), Rings.NONE);
        x.open(0);
        x.deposit(0, 0, 4);
        Rings.pay(x, 0);
        due.is("not ended yet", x.as(0, 0, 0, 6), Rings.NONE);
        x.draw(0);
        x.stop(0, 1);
        x.replace(0, 1, 2);
        due.is("deposit", x.as(0, 0, 0, 5), 4);
        due.is("paid", x.as(0, 0, 0, 6), 10);
        due.is("debt", x.as(0, 0, 1, 3), 0);
        due.is("held", x.as(0, 0, 1, 0), 3);
        due.is("full", x.as(0, 0, 1, 10), 1);
        due.is("did draw", x.as(0, 0, 0, 1), 0);
        due.is("its surety", x.as(0, 0, 1, 11), 0);
        due.is("a letter", x.as(0, 0, 2, 0), 1);
        due.is("no place", x.as(0, 0, 2, 3), Rings.NONE);
        due.is("no seat", x.as(0, 0, 60, 0), Rings.NONE);
        due.is("no seat", x.as(0, 0, -1, 0), Rings.NONE);
        due.is("what 12", x.as(0, 0, 0, 12), Rings.NONE);
        due.is("what -1", x.as(0, 0, 0, -1), Rings.NONE);
        due.is("no ring", x.as(1, 0, 0, 0), Rings.NONE);
        due.is("round -1", x.as(0, -1, 0, 0), Rings.NONE);
        due.is("round 1", x.as(0, 1, 0, 0), Rings.NONE);
        due.is("round 60", x.as(0, 60, 0, 0), Rings.NONE);
        x.draw(0);
        due.is("round 1", x.as(0, 1, 1, 0), 2);
        due.is("did draw", x.as(0, 1, 0, 1), 1);
        x.undo(0);
        due.is("undone", x.as(0, 1, 1, 0), Rings.NONE);
        due.is("round 0 is kept", x.as(0, 0, 1, 0), 3);
        x.stop(0, 1);
        x.draw(0);
        due.is("drawn anew", x.as(0, 1, 1, 2), 1);
    }

    private static void count() {
        due.promise(31);
        PurseRing x = Rings.making(Rings.NEED, 10, 3, 8, 2, 2, 2, 1);
        long[] made = {3, 10, 3, 8, 0, 0, 0, -1, 0, -1, 0, 0, 0, 0};
        for (int what = 0; what < 14; what++) {
            due.is("being made: " + what, x.count(0, what), made[what]);
        }
        x.open(0);
        x.draw(0);
        x.late(0, 1);
        x.stop(0, 0);
        x.row(0, 5);
        x.need(0, 2);
        x.yes(0, 1);
        long[] open = {3, 10, 3, 21, 1, 1, 3, 5, 1, 2, 1, 0, 1, 3};
        for (int what = 0; what < 14; what++) {
            due.is("open: " + what, x.count(0, what), open[what]);
        }
        due.is("what 14", x.count(0, 14), Rings.NONE);
        due.is("what -1", x.count(0, -1), Rings.NONE);
        due.is("no ring", x.count(1, 0), Rings.NONE);
        due.is("no ring", x.count(-2, 0), Rings.NONE);
    }

    private static void countOfAll() {
        PurseRing x = new PurseRing();
        x.ring(0, 1, 0, 0);
        x.ring(0, 0, 0, 0);
        x.ring(0, 1, 0, 0);
        x.tell(5);
        due.is("rings", x.count(Rings.NONE, 0), 2);
        due.is("numbers", x.count(Rings.NONE, 1), 1);
        due.is("what 2", x.count(Rings.NONE, 2), Rings.NONE);
        due.is("what -1", x.count(Rings.NONE, -1), Rings.NONE);
    }
}
