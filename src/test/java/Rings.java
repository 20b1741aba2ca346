/** Rings that the tests begin with. */
final class Rings {
    static final int ORDER = 0;
    static final int LOT = 1;
    static final int BID = 2;
    static final int NEED = 3;

    static final int PAYER = 2;
    static final int PAIR = 3;
    static final int SURETY = 4;

    static final int DONE = 0;
    static final int RING = 1;
    static final int STATE = 2;
    static final int SEAT = 3;
    static final int KIND = 4;
    static final int ROW = 5;
    static final int ENDS = 6;
    static final int SIZE = 7;
    static final int PAID = 8;
    static final int FULL = 9;
    static final int STOPPED = 10;

    static final int NONE = PurseRing.NONE;

    private Rings() {
    }

    /** Ring 0 of a new object, being made, with these on its seats from 0 on. */
    static PurseRing making(int kind, int payment, int fine, int chest, int... holds) {
        PurseRing x = new PurseRing();
        x.ring(kind, payment, fine, chest);
        for (int i = 0; i < holds.length; i++) {
            x.seat(0, i, holds[i], 7);
        }
        return x;
    }

    static PurseRing opened(int kind, int payment, int fine, int chest, int... holds) {
        PurseRing x = making(kind, payment, fine, chest, holds);
        x.open(0);
        return x;
    }

    /** Payers on the seats from 0 on, with 10 coins to pay each round. */
    static PurseRing payers(int kind, int many) {
        int[] holds = new int[many];
        java.util.Arrays.fill(holds, PAYER);
        return opened(kind, 10, 3, 0, holds);
    }

    /** A row of 60 in which just these seats pay, pairs with both halves. */
    static void pay(PurseRing x, int... seats) {
        x.row(0, 60);
        for (int seat : seats) {
            x.pay(0, seat, 0);
            if (x.look(0, seat, 0) == PAIR) {
                x.pay(0, seat, 1);
            }
        }
    }

    static void payAndDraw(PurseRing x, int... seats) {
        pay(x, seats);
        x.draw(0);
    }
}
