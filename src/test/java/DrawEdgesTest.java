/** The edges of promises 18 and 19, and of part 3, which says how a round ends. */
final class DrawEdgesTest {
    private static final Due due = new Due("DrawEdgesTest");

    public static void main(String[] args) {
        due.promise(18);
        drawTakes();
        drawRefuses();
        oneCoinIsLacking();
        rowEndsAheadOfTheSeat();
        depositIsJustEnough();
        depositGoesBySeats();
        suretyThatIsLateOrStopped();
        chestIsJustEnough();
        lotWrapsAround();
        debtOfOneCoin();
        nobodyIsAble();
        equalBids();
        bidIsAllThatIsGiven();
        bidWithoutOthers();
        coinsThatAreLeft();
        claimIsJustPaid();
        claimOfAStoppedSurety();
        sharesOfMoreThanAnInt();
        due.promise(19);
        drawn();
        drawnOfSixty();
        due.end();
    }

    private static Stand payers(int kind, int many, int chest) {
        return new Stand(due, "ring " + kind + " 10 2 " + chest, "seat 0 0.." + (many - 1) + " 2 0", "open 0");
    }

    private static void drawTakes() {
        payers(0, 1, 0).run("draw 0 = DONE", "count 0 5 = 1", "draw 0 = PAID");
        payers(0, 2, 0).run("2* draw 0 = DONE", "count 0 5 = 2", "draw 0 = PAID");
        payers(0, 60, 0).run("59* draw 0 = DONE", "count 0 5 = 59", "draw 0 = DONE", "count 0 5 = 60",
                "draw 0 = PAID", "count 0 5 = 60");
        payers(0, 2, 0).then("stop 0 0,1").run("2* draw 0 = DONE", "drawn 0 0,1 0 = NONE", "draw 0 = PAID");
    }

    private static void drawRefuses() {
        for (int kind = 0; kind < 4; kind++) {
            Stand made = new Stand(due, "ring " + kind + " 10 2 5", "seat 0 0,1 2 0");
            made.refuses("draw 0 = STATE", "draw MIN,-1,1,40,MAX = RING");
            made.then("open 0", "2* draw 0").refuses("draw 0 = PAID", "draw 1 = RING");
            made.then("open 0", "2* draw 0", "close 0").refuses("draw 0 = STATE");
        }
    }

    private static void oneCoinIsLacking() {
        Stand pair = new Stand(due, "ring 0 2 0 0", "seat 0 0 3 0", "seat 0 1 2 0", "open 0", "row 0 2", "pay 0 1 0");
        pair.then("pay 0 0 0,1", "draw 0").answers("look 0 0 3 = 0", "look 0 0 10 = 1", "drawn 0 0 0 = 0",
                "drawn 0 0 1 = 4");
        for (int half = 0; half < 2; half++) {
            pair.then("pay 0 0 " + half, "draw 0").answers("look 0 0 3 = 1", "look 0 0 10 = 0",
                    "drawn 0 0 0 = 1", "drawn 0 0 1 = 3");
        }
        Stand one = new Stand(due, "ring 0 1 0 0", "seat 0 0 3 0", "open 0", "row 0 1");
        one.then("pay 0 0 0", "draw 0").answers("look 0 0 3 = 0", "look 0 0 10 = 1", "drawn 0 0 0 = 0");
        one.then("pay 0 0 1", "draw 0").answers("look 0 0 3 = 1", "look 0 0 10 = 0", "drawn 0 0 0 = NONE");
        new Stand(due, "ring 0 9999999 0 0", "seat 0 0..59 2 0", "open 0", "60* draw 0").answers(
                "look 0 0,59 3 = 599999940", "look 0 0,59 10 = 0");
    }

    private static void rowEndsAheadOfTheSeat() {
        payers(0, 3, 0).then("row 0 2", "pay 0 0,1 0", "draw 0").answers("look 0 0,1 3 = 0", "look 0 2 3 = 10",
                "drawn 0 0 1 = 20");
        payers(0, 3, 0).then("row 0 3", "pay 0 0,1,2 0", "draw 0").answers("look 0 0,1,2 3 = 0",
                "drawn 0 0 1 = 30");
        payers(0, 3, 0).then("row 0 0", "draw 0").answers("look 0 0,1,2 3 = 10", "drawn 0 0 1 = 0");
        payers(0, 3, 0).then("draw 0").answers("look 0 0,1,2 3 = 10", "drawn 0 0 1 = 0");
        payers(0, 3, 0).then("row 0 3", "pay 0 0,1,2 0", "tear 0", "draw 0").answers("look 0 0,1,2 3 = 10",
                "look 0 0,1,2 6 = 0", "drawn 0 0 1 = 0");
        payers(0, 3, 0).then("stop 0 2", "row 0 3", "draw 0").answers("look 0 2 3 = 0", "look 0 0,1 3 = 10");
    }

    /** Seat 0 is late, its surety is seat 1, and seat 2 draws. */
    private static void depositIsJustEnough() {
        Stand told = new Stand(due, "ring 0 10 0 0", "seat 0 0,2 2 0", "seat 0 1 4 0", "answers 0 1 0", "order 0 2",
                "open 0", "row 0 3", "pay 0 1,2 0");
        told.then("draw 0").answers("look 0 0 3 = 10", "look 0 0 4 = 0", "drawn 0 0 1 = 20");
        long[][] sums = {{1, 9, 1, 0}, {9, 1, 9, 0}, {10, 0, 10, 0}, {11, 0, 10, 1}, {100000000, 0, 10, 99999990}};
        for (long[] s : sums) {
            told.then("deposit 0 1 " + s[0], "draw 0").answers("look 0 0 3 = " + s[1], "look 0 0 4 = " + s[2],
                    "look 0 1 5 = " + s[3], "drawn 0 0 1 = " + (20 + s[2]), "look 0 0 10 = 0",
                    "look 0 0 6 = 0", "look 0 1 10 = 1", "drawn 0 0 0 = 2");
        }
        told.then("deposit 0 1 10", "draw 0").refuses("late 0 0 = PAID");
    }

    private static void depositGoesBySeats() {
        Stand told = new Stand(due, "ring 0 10 0 0", "seat 0 0,2,3 2 0", "seat 0 1 4 0", "answers 0 1 0,2",
                "order 0 3", "open 0", "row 0 4", "pay 0 1,3 0");
        long[][] sums = {{9, 9, 0}, {10, 10, 0}, {11, 10, 1}, {19, 10, 9}, {20, 10, 10}, {21, 10, 10}};
        for (long[] s : sums) {
            told.then("deposit 0 1 " + s[0], "draw 0").answers("look 0 0 4 = " + s[1], "look 0 2 4 = " + s[2],
                    "look 0 0 3 = " + (10 - s[1]), "look 0 2 3 = " + (10 - s[2]),
                    "look 0 1 5 = " + (s[0] - s[1] - s[2]));
        }
    }

    private static void suretyThatIsLateOrStopped() {
        Stand two = new Stand(due, "ring 0 10 0 0", "seat 0 0,1 4 0", "answers 0 1 0", "answers 0 0 1", "open 0",
                "deposit 0 0 4", "deposit 0 1 3");
        two.then("draw 0").answers("look 0 0 3 = 7", "look 0 0 4 = 3", "look 0 1 3 = 6", "look 0 1 4 = 4",
                "look 0 0,1 5 = 0", "drawn 0 0 1 = 7", "count 0 3 = 7");
        two.then("stop 0 1", "draw 0").answers("look 0 0 3 = 10", "look 0 0 4 = 0", "look 0 0 5 = 4",
                "look 0 1 3,4 = 0");
        two.then("stop 0 1", "replace 0 1 4", "deposit 0 1 3", "draw 0").answers("look 0 0 4 = 3",
                "look 0 1 4 = 4");
    }

    private static void chestIsJustEnough() {
        long[][] sums = {{0, 0}, {1, 1}, {9, 9}, {10, 10}, {11, 10}, {2000000000, 10}};
        for (long[] s : sums) {
            payers(0, 3, (int) s[0]).then("row 0 3", "pay 0 0,1 0", "draw 0").answers("drawn 0 0 3 = " + s[1],
                    "drawn 0 0 1 = " + (20 + s[1]), "count 0 3 = " + (s[0] - s[1]),
                    "look 0 0 7 = " + (20 + s[1]));
            payers(0, 3, (int) s[0]).then("row 0 3", "pay 0 0,1,2 0", "draw 0").answers("drawn 0 0 3 = 0",
                    "drawn 0 0 1 = 30", "count 0 3 = " + s[0]);
            payers(0, 3, (int) s[0]).then("stop 0 2", "row 0 3", "pay 0 0,1 0", "draw 0").answers(
                    "drawn 0 0 3 = " + s[1], "count 0 3 = " + (s[0] - s[1]));
        }
    }

    private static void lotWrapsAround() {
        int[][] lots = {{0, 0}, {1, 2}, {2, 4}, {3, 0}, {4, 2}, {5, 4}, {2147483645, 4}, {2147483646, 0},
            {2147483647, 2}};
        for (int[] l : lots) {
            new Stand(due, "ring 1 10 0 0", "seat 0 0,2,4,59 2 0", "lot 0 " + l[0], "open 0", "row 0 5",
                    "pay 0 0,2,4 0", "draw 0").answers("drawn 0 0 0 = " + l[1]);
        }
        Stand untold = new Stand(due, "ring 1 10 0 0", "seat 0 0..3 2 0", "lot 0 3", "open 0", "row 0 4",
                "pay 0 0..3 0", "draw 0", "row 0 4", "pay 0 0..3 0");
        untold.answers("drawn 0 0 0 = 3").then("draw 0").answers("drawn 0 1 0 = 0");
        untold.then("lot 0 2", "draw 0").answers("drawn 0 1 0 = 2");
        untold.then("lot 0 0", "lot 0 2", "draw 0").answers("drawn 0 1 0 = 0");
    }

    private static void debtOfOneCoin() {
        for (int kind = 0; kind < 4; kind++) {
            Stand pair = new Stand(due, "ring " + kind + " 3 0 0", "seat 0 0 3 0", "seat 0 1 2 0", "open 0",
                    "row 0 2", "pay 0 0,1 0", "draw 0");
            pair.answers("look 0 0 3 = 1", "drawn 0 0 0 = 1");
            pair.then("row 0 2", "pay 0 0,1 0", "pay 0 0 1", "draw 0").answers("drawn 0 1 0 = NONE",
                    "count 0 3 = 6");
            pair.then("late 0 0", "row 0 2", "pay 0 0,1 0", "pay 0 0 1", "draw 0").answers("drawn 0 1 0 = 0");
        }
    }

    private static void nobodyIsAble() {
        for (int kind = 0; kind < 4; kind++) {
            payers(kind, 2, 7).then("draw 0").answers("drawn 0 0 0 = NONE", "drawn 0 0 1 = 7", "drawn 0 0 2 = 0",
                    "drawn 0 0 3 = 7", "count 0 3 = 7", "look 0 0,1 1 = 0", "look 0 0,1 7 = 0");
            payers(kind, 1, 0).then("row 0 1", "pay 0 0 0", "stop 0 0", "draw 0").answers(
                    "drawn 0 0 0 = NONE", "drawn 0 0 1 = 0", "count 0 3 = 0");
            Stand both = payers(kind, 3, 0).then("row 0 3", "pay 0 0,1 0", "draw 0", "row 0 3", "pay 0 0,1 0",
                    "draw 0", "row 0 3", "pay 0 0,1,2 0", "draw 0");
            both.answers("drawn 0 2 0 = NONE", "drawn 0 2 1 = 30", "count 0 3 = 30");
        }
        payers(2, 2, 0).then("bid 0 1 20", "draw 0").answers("drawn 0 0 0 = NONE", "drawn 0 0 2 = 0",
                "look 0 0,1 8 = 0");
    }

    private static void equalBids() {
        Stand paid = payers(2, 4, 0).then("row 0 4", "pay 0 0..3 0");
        paid.then("bid 0 3,1 5", "draw 0").answers("drawn 0 0 0 = 1");
        paid.then("bid 0 1 5", "bid 0 3 6", "draw 0").answers("drawn 0 0 0 = 3");
        paid.then("bid 0 3 0", "draw 0").answers("drawn 0 0 0 = 0");
        paid.then("bid 0 1..3 40", "bid 0 0 39", "draw 0").answers("drawn 0 0 0 = 1", "drawn 0 0 2 = 40");
    }

    /** Two of three pay, so that 20 of a PURSE of 30 are GIVEN. */
    private static void bidIsAllThatIsGiven() {
        long[][] bids = {{18, 18, 2, 9, 9}, {19, 19, 1, 10, 9}, {20, 20, 0, 10, 10}, {21, 20, 0, 10, 10},
            {30, 20, 0, 10, 10}};
        for (long[] b : bids) {
            payers(2, 3, 0).then("row 0 3", "pay 0 0,1 0", "bid 0 0 " + b[0], "draw 0").answers(
                    "drawn 0 0 1 = 20", "drawn 0 0 2 = " + b[1], "look 0 0 7 = " + b[2],
                    "look 0 1 8 = " + b[3], "look 0 2 8 = " + b[4], "look 0 0 8 = 0", "look 0 0 1 = 1");
        }
    }

    private static void bidWithoutOthers() {
        payers(2, 1, 0).then("row 0 1", "pay 0 0 0", "bid 0 0 10", "draw 0").answers("drawn 0 0 2 = 0",
                "look 0 0 7 = 10", "look 0 0 8 = 0");
        payers(2, 3, 0).then("stop 0 0,2", "row 0 3", "pay 0 1 0", "bid 0 1 9", "draw 0").answers(
                "drawn 0 0 0 = 1", "drawn 0 0 2 = 0", "look 0 1 7 = 10", "look 0 0,2 8 = 0");
        payers(2, 3, 0).then("stop 0 0", "row 0 3", "pay 0 1,2 0", "bid 0 1 9", "draw 0").answers(
                "drawn 0 0 2 = 9", "look 0 1 7 = 11", "look 0 0 8 = 0", "look 0 2 8 = 9");
    }

    /** Seats 0 and 1 drew, 2 and 3 are NEITHER, 4 draws, 5 is stopped. */
    private static void coinsThatAreLeft() {
        Stand third = payers(2, 6, 0).then("stop 0 5", "row 0 6", "pay 0 0..4 0", "draw 0", "row 0 6",
                "pay 0 0..4 0", "draw 0", "row 0 6", "pay 0 0..4 0");
        for (int bid = 1; bid <= 9; bid++) {
            int part = bid / 4;
            int left = bid % 4;
            third.then("bid 0 4 " + bid, "draw 0").answers("drawn 0 2 0 = 4", "drawn 0 2 2 = " + bid,
                    "look 0 2 8 = " + (left > 0 ? part + 1 : part), "look 0 3 8 = " + (left > 1 ? part + 1 : part),
                    "look 0 0 8 = " + (left > 2 ? part + 1 : part), "look 0 1 8 = " + part,
                    "look 0 4,5 8 = 0", "look 0 4 7 = " + (50 - bid));
        }
    }

    /** Of 30 that are GIVEN a CLAIM of 10 is paid first. */
    private static void claimIsJustPaid() {
        Stand second = new Stand(due, "ring 2 10 0 0", "seat 0 0 4 0", "seat 0 1,2 2 0", "answers 0 0 2", "open 0",
                "deposit 0 0 10", "row 0 3", "pay 0 0,1 0", "draw 0", "row 0 3", "pay 0 0..2 0");
        second.answers("drawn 0 0 0 = 0", "look 0 2 4 = 10", "look 0 0 5 = 0");
        long[][] bids = {{19, 10, 0, 1}, {20, 10, 0, 0}, {21, 9, 1, 0}, {29, 1, 9, 0}, {30, 0, 10, 0}};
        for (long[] b : bids) {
            second.then("bid 0 2 " + b[0], "draw 0").answers("look 0 0 5 = " + b[1], "look 0 2 4 = " + b[2],
                    "look 0 2 7 = " + b[3], "drawn 0 1 1 = 30", "look 0 0 9 = 0");
        }
        second.then("bid 0 2 1", "draw 0").answers("look 0 0 5 = 10", "look 0 2 4 = 0", "look 0 2 7 = 19");
    }

    private static void claimOfAStoppedSurety() {
        Stand second = new Stand(due, "ring 0 10 0 0", "seat 0 0 4 0", "seat 0 1,2 2 0", "answers 0 0 2", "order 0 1",
                "order 0 2", "open 0", "deposit 0 0 14", "row 0 3", "pay 0 0,1 0", "draw 0", "stop 0 0");
        second.answers("look 0 0 5 = 0", "look 0 0 9 = 4", "look 0 2 4 = 10");
        Stand third = second.then("row 0 3", "pay 0 1,2 0", "draw 0");
        third.answers("drawn 0 1 0 = 2", "look 0 0 5 = 10", "look 0 0 9 = 4", "look 0 2 7 = 10",
                "look 0 2 4 = 0");
        third.then("draw 0", "close 0").answers("look 0 0 5 = 0", "look 0 0 9 = 14");
    }

    /** The one other that goes on is SHARED the whole PURSE in each of five rounds. */
    private static void sharesOfMoreThanAnInt() {
        Stand rich = new Stand(due, "ring 2 9999999 9999999 2000000000", "seat 0 0..59 2 0", "open 0", "draw 0",
                "late 0 0..59", "stop 0 1..58");
        rich.answers("count 0 3 = 3199999880");
        for (int i = 0; i < 5; i++) {
            rich = rich.then("row 0 60", "pay 0 59 0", "pay 0 " + i + " 0", "bid 0 " + i + " 599999940", "draw 0",
                    "stop 0 " + i, "replace 0 " + (i + 1) + " 2");
        }
        rich.answers("drawn 0 1..5 1 = 599999940", "drawn 0 1..5 2 = 599999940", "look 0 59 8 = 2999999700",
                "count 0 3 = 300000170");
    }

    private static void drawn() {
        payers(0, 3, 0).answers("drawn 0 0 0..3 = NONE");
        new Stand(due, "ring 0 10 0 0", "seat 0 0 2 0").answers("drawn 0 0 0..3 = NONE");
        Stand two = payers(2, 3, 4).then("row 0 3", "pay 0 0,1 0", "bid 0 1 6", "draw 0", "draw 0");
        two.answers("drawn 0 0 0 = 1", "drawn 0 0 1 = 24", "drawn 0 0 2 = 6", "drawn 0 0 3 = 4",
                "drawn 0 1 0 = NONE", "drawn 0 1 1,2,3 = 0");
        two.refuses("drawn 0 MIN,-1,2,3,59,60,MAX 0..3 = NONE", "drawn 0 0,1 MIN,-1,4,MAX = NONE",
                "drawn MIN,-1,1,40,MAX 0 1 = NONE");
        two.then("undo 0").answers("drawn 0 0 1 = 24", "drawn 0 1 1 = NONE");
        two.then("undo 0", "undo 0").answers("drawn 0 0,1 0..3 = NONE");
        two.then("draw 0", "close 0").answers("drawn 0 0 1 = 24", "drawn 0 2 1 = 0", "drawn 0 3 1 = NONE");
    }

    private static void drawnOfSixty() {
        payers(0, 60, 9).then("60* draw 0").answers("drawn 0 0..59 0 = NONE", "drawn 0 0,59 1,3 = 9",
                "drawn 0 0,59 2 = 0", "drawn 0 60,61,MAX 0..3 = NONE");
    }
}
