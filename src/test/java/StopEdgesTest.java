/** The edges of promises 20 to 24, and of part 4, which says how places stop and rings close. */
final class StopEdgesTest {
    private static final Due due = new Due("StopEdgesTest");

    public static void main(String[] args) {
        stopTakes();
        stopRefuses();
        owedIsAtLeastNothing();
        owesToTheEnd();
        whatStoppingTakesBack();
        wishesGoWithWhoStops();
        replaceTakes();
        replaceRefuses();
        whatReplacingLeaves();
        stops();
        closeTakes();
        closeRefuses();
        chestIsJustEnoughForStops();
        partsOfTheChest();
        backOfMoreThanAnInt();
        whoIsFull();
        fair();
        fairByOneCoin();
        due.end();
    }

    /** A payer, a surety, a pair, a letter, nothing and one more payer, being made. */
    private static Stand made(int kind) {
        return new Stand(due, "ring " + kind + " 10 2 0", "seat 0 0 2 0", "seat 0 1 4 0", "seat 0 2 3 0",
                "seat 0 3 1 77", "seat 0 5 2 0", "answers 0 1 0");
    }

    private static Stand open(int kind) {
        return made(kind).then("open 0");
    }

    private static Stand closed(int kind) {
        return open(kind).then("4* draw 0", "close 0");
    }

    private static Stand payers(int many, int fine, int chest) {
        return new Stand(due, "ring 0 10 " + fine + " " + chest, "seat 0 0.." + (many - 1) + " 2 0", "open 0");
    }

    private static void stopTakes() {
        due.promise(20);
        open(0).answers("stop 0 0,1,2,5 = DONE");
        open(0).run("stop 0 5 = DONE", "look 0 5 2 = 1", "look 0 5 10 = 0", "look 0 5 0 = 2", "count 0 8 = 1",
                "count 0 6 = 4", "look 0 0,1,2 2 = 0", "look 0 0,1,2 10 = 1");
        new Stand(due, "ring 0 10 2 0", "seat 0 0,59 2 0", "open 0").run("stop 0 59,0 = DONE", "stops 0 0 0 = 59",
                "stops 0 1 0 = 0", "count 0 8 = 2");
        open(0).then("4* draw 0").run("stop 0 0 = DONE", "stops 0 0 1 = 4");
    }

    private static void stopRefuses() {
        due.promise(20);
        for (int kind = 0; kind < 4; kind++) {
            open(kind).refuses("stop MIN,-1,1,40,MAX 0 = RING", "stop 1 60 = RING",
                    "stop 0 MIN,-1,60,MAX = SEAT", "stop 0 3,4,59 = SEAT");
            open(kind).then("stop 0 0,2").refuses("stop 0 0,2 = STOPPED");
            made(kind).refuses("stop 0 0,60 = STATE");
            closed(kind).refuses("stop 0 0,60 = STATE");
        }
    }

    /** Seat 1 paid one round of 10 and did not draw. */
    private static void owedIsAtLeastNothing() {
        due.promise(20);
        long[][] fines = {{0, 10}, {1, 9}, {9, 1}, {10, 0}, {11, 0}, {9999999, 0}};
        for (long[] f : fines) {
            Stand second = payers(2, (int) f[0], 0).then("row 0 2", "pay 0 0,1 0", "draw 0");
            second.then("stop 0 1").answers("stops 0 0 2 = " + f[1], "stops 0 0 3 = 0", "look 0 1 6 = 10");
            second.then("row 0 2", "pay 0 1 0", "stop 0 1").answers("stops 0 0 2 = " + f[1], "came 0 1 = 0");
            second.then("draw 0", "stop 0 1").answers("stops 0 0 2 = " + f[1], "stops 0 0 3 = 0");
            second.then("stop 0 0").answers("stops 0 0 2 = 0", "stops 0 0 3 = 10");
        }
        payers(2, 2, 0).then("draw 0", "late 0 1", "stop 0 1").answers("stops 0 0 2 = 8");
    }

    private static void owesToTheEnd() {
        due.promise(20);
        Stand drew = payers(3, 2, 0).then("row 0 3", "pay 0 0..2 0", "draw 0");
        drew.then("stop 0 0").answers("stops 0 0 3 = 20", "stops 0 0 2 = 0", "stops 0 0 1 = 1");
        Stand second = drew.then("row 0 3", "pay 0 0..2 0", "draw 0");
        second.then("stop 0 0").answers("stops 0 0 3 = 10");
        second.then("row 0 3", "pay 0 0..2 0", "draw 0", "stop 0 0").answers("stops 0 0 3 = 0", "stops 0 0 2 = 0");
        drew.then("draw 0", "stop 0 0").answers("stops 0 0 3 = 20", "look 0 0 3 = 0");
        drew.then("2* draw 0", "stop 0 0").answers("stops 0 0 3 = 20", "look 0 0 3 = 0");
        new Stand(due, "ring 0 9999999 0 0", "seat 0 0..59 2 0", "open 0", "row 0 1", "pay 0 0 0", "draw 0",
                "stop 0 0").answers("stops 0 0 3 = 589999941");
    }

    private static void whatStoppingTakesBack() {
        due.promise(20);
        Stand second = open(0).then("deposit 0 1 7", "row 0 60", "pay 0 1 0", "pay 0 2 0", "draw 0", "row 0 60",
                "pay 0 0,1,2,5 0");
        second.answers("look 0 0 4 = 7", "look 0 0 3 = 3", "look 0 0 6 = 10", "look 0 1 5 = 0", "look 0 2 3 = 5");
        second.then("stop 0 0").answers("came 0 0 = 0", "look 0 0 6 = 0", "look 0 0 3 = 0", "look 0 0 9 = 0",
                "look 0 0 2 = 1", "came 0 1 = 10");
        second.then("stop 0 2").answers("came 0 2 = 0", "look 0 2 6 = 5", "look 0 2 3 = 0", "stops 0 0 2 = 3");
        open(0).then("deposit 0 1 7", "row 0 60", "pay 0 1 0", "stop 0 1").answers("look 0 1 5 = 0",
                "look 0 1 9 = 7", "look 0 1 6 = 0", "stops 0 0 2 = 0", "count 0 7 = 60");
        open(0).then("22* deposit 0 1 100000000", "stop 0 1").answers("look 0 1 9 = 2200000000");
        open(0).then("row 0 60", "pay 0 2 0,1", "stop 0 2", "replace 0 2 3").answers("pay 0 2 0,1 = DONE");
    }

    private static void wishesGoWithWhoStops() {
        due.promise(20);
        Stand bids = open(2).then("bid 0 5 9", "stop 0 5", "replace 0 5 2", "row 0 60", "pay 0 0,1,2,5 0",
                "pay 0 2 1", "draw 0");
        bids.answers("drawn 0 0 0 = 0", "drawn 0 0 2 = 0");
        open(2).then("bid 0 5 9", "stop 0 5", "replace 0 5 2", "row 0 60", "pay 0 5 0", "draw 0").answers(
                "drawn 0 0 0 = 5", "drawn 0 0 2 = 0");
        Stand asks = open(3).then("need 0 5", "yes 0 0,5");
        asks.then("stop 0 5").answers("count 0 9 = NONE", "count 0 10 = 1");
        asks.then("stop 0 0").answers("count 0 9 = 5", "count 0 10 = 1");
        asks.then("stop 0 1").answers("count 0 9 = 5", "count 0 10 = 2");
        asks.then("stop 0 5", "replace 0 5 2").answers("count 0 9 = NONE", "count 0 10 = 1", "yes 0 5 = SEAT");
    }

    private static void replaceTakes() {
        due.promise(21);
        for (int what = 2; what <= 4; what++) {
            open(0).then("stop 0 0,1,2,5").run("replace 0 0,1,2,5 " + what + " = DONE",
                    "look 0 0,1,2,5 0 = " + what, "look 0 0,1,2,5 2 = 0", "look 0 0,1,2,5 10 = 0",
                    "replace 0 0,1,2,5 " + what + " = PAID");
        }
        new Stand(due, "ring 0 10 2 0", "seat 0 0,59 2 0", "open 0", "stop 0 0,59").answers(
                "replace 0 0,59 2,3,4 = DONE");
        open(0).then("4* draw 0", "stop 0 0").answers("replace 0 0 2 = DONE");
    }

    private static void replaceRefuses() {
        due.promise(21);
        for (int kind = 0; kind < 4; kind++) {
            open(kind).then("stop 0 0,1").refuses("replace MIN,-1,1,40,MAX 0 2 = RING", "replace 1 60 1 = RING",
                    "replace 0 MIN,-1,60,MAX 2 = SEAT", "replace 0 3,4,59 2 = SEAT", "replace 0 3,60 1 = SEAT",
                    "replace 0 2,5 2,3,4 = PAID", "replace 0 2,5 MIN,-1,0,1,5,MAX = PAID",
                    "replace 0 0,1 MIN,-1,0,1,5,MAX = KIND");
            made(kind).refuses("replace 0 0 2 = STATE", "replace 0 60 1 = STATE");
            closed(kind).refuses("replace 0 0 2 = STATE", "replace 0 60 1 = STATE");
            open(kind).then("stop 0 0", "4* draw 0", "close 0").refuses("replace 0 0 2 = STATE");
        }
    }

    private static void whatReplacingLeaves() {
        due.promise(21);
        Stand third = new Stand(due, "ring 2 10 0 0", "seat 0 0 4 0", "seat 0 1,2 2 0", "answers 0 0 2", "open 0",
                "deposit 0 0 25", "bid 0 1 3", "row 0 3", "pay 0 0,1 0", "draw 0", "bid 0 2 2", "row 0 3",
                "pay 0 0,1 0", "draw 0");
        third.answers("look 0 2 1 = 1", "look 0 2 8 = 1", "look 0 2 7 = 8", "look 0 2 4 = 0", "look 0 0 8 = 3");
        Stand late = third.then("draw 0");
        late.answers("look 0 2 4 = 10", "look 0 0 5 = 15");
        late.then("stop 0 2").answers("look 0 2 4 = 10", "look 0 2 7 = 8", "look 0 2 8 = 1");
        late.then("stop 0 2", "replace 0 2 2").answers("look 0 2 1 = 1", "look 0 2 2..10 = 0", "look 0 2 11 = 0",
                "look 0 0 5 = 15");
        late.then("stop 0 0", "replace 0 0 4").answers("look 0 0 2..10 = 0", "look 0 0 1 = 0", "look 0 2 4 = 10",
                "look 0 2 11 = 0");
        third.then("stop 0 0", "replace 0 0 2").answers("look 0 0 5,9 = 0", "look 0 2 11 = 0");
    }

    private static void stops() {
        due.promise(22);
        open(0).answers("stops 0 0 0..4 = NONE");
        made(0).answers("stops 0 0 0..4 = NONE");
        Stand two = payers(3, 3, 0).then("row 0 3", "pay 0 0..2 0", "draw 0", "stop 0 2,0");
        two.answers("stops 0 0 0 = 2", "stops 0 0 1 = 1", "stops 0 0 2 = 7", "stops 0 0 3,4 = 0",
                "stops 0 1 0 = 0", "stops 0 1 1 = 1", "stops 0 1 2 = 0", "stops 0 1 3 = 20", "stops 0 1 4 = 0");
        two.refuses("stops 0 MIN,-1,2,3,MAX 0..4 = NONE", "stops 0 0,1 MIN,-1,5,MAX = NONE",
                "stops MIN,-1,1,40,MAX 0 0 = NONE");
        two.then("replace 0 2 2", "stop 0 2").answers("stops 0 2 0 = 2", "stops 0 2 2 = 0", "stops 0 3 0 = NONE",
                "stops 0 0 2 = 7");
        two.then("2* draw 0").answers("stops 0 0 4 = 0").then("close 0").answers("stops 0 0 4 = 7",
                "stops 0 1 4 = 0", "stops 0 0 2 = 7");
        String[] many = new String[440];
        for (int i = 0; i < many.length; i += 2) {
            many[i] = "stop 0 0";
            many[i + 1] = "replace 0 0 2";
        }
        payers(1, 0, 0).then(many).answers("count 0 8 = 220", "stops 0 219 0 = 0", "stops 0 220 0 = NONE");
    }

    private static void closeTakes() {
        due.promise(23);
        payers(1, 2, 0).then("draw 0").run("close 0 = DONE", "count 0 4 = 2", "count 0 5 = 1", "close 0 = STATE");
        payers(60, 2, 0).then("59* draw 0").answers("close 0 = PAID").then("draw 0").answers("close 0 = DONE");
        Stand all = open(0).then("deposit 0 1 9", "row 0 60", "pay 0 0,1,2,5 0", "pay 0 2 1", "draw 0", "row 0 60",
                "pay 0 0,1,2,5 0", "pay 0 2 1", "draw 0", "row 0 60", "pay 0 0,1,2,5 0", "pay 0 2 1", "draw 0",
                "row 0 60", "pay 0 0,1,2,5 0", "pay 0 2 1", "draw 0");
        all.run("look 0 1 5 = 9", "close 0 = DONE", "look 0 1 5 = 0", "look 0 1 9 = 9", "look 0 0,2,5 9 = 0",
                "count 0 3 = 0");
    }

    private static void closeRefuses() {
        due.promise(23);
        for (int kind = 0; kind < 4; kind++) {
            made(kind).refuses("close 0 = STATE");
            open(kind).then("deposit 0 1 9").refuses("close MIN,-1,1,40,MAX = RING", "close 0 = PAID");
            open(kind).then("deposit 0 1 90", "stop 0 5", "3* draw 0").refuses("close 0 = PAID");
            open(kind).then("4* draw 0", "undo 0").refuses("close 0 = PAID");
            closed(kind).refuses("close 0 = STATE", "close 1 = RING");
        }
    }

    /** Seat 1 is OWED 7, and none is FULL. */
    private static void chestIsJustEnoughForStops() {
        due.promise(23);
        long[][] chests = {{0, 7, 0}, {1, 6, 0}, {6, 1, 0}, {7, 0, 0}, {8, 0, 1}, {2000000000, 0, 1999999993}};
        for (long[] c : chests) {
            payers(2, 3, (int) c[0]).then("row 0 2", "pay 0 0,1 0", "draw 0", "stop 0 1", "draw 0", "close 0").answers(
                    "stops 0 0 2 = 7", "stops 0 0 4 = " + c[1], "count 0 3 = " + c[2], "look 0 0,1 9 = 0");
        }
        long[][] two = {{0, 7, 7}, {6, 1, 7}, {7, 0, 7}, {8, 0, 6}, {13, 0, 1}, {14, 0, 0}, {15, 0, 0}};
        for (long[] c : two) {
            payers(3, 3, (int) c[0]).then("row 0 3", "pay 0 0..2 0", "draw 0", "stop 0 2,1", "2* draw 0", "close 0")
                    .answers("stops 0 0 4 = " + c[1], "stops 0 1 4 = " + c[2],
                            "count 0 3 = " + Math.max(0, c[0] - 14));
        }
    }

    private static Stand threeThatPayAlways(int chest) {
        return payers(3, 2, chest).then("row 0 3", "pay 0 0..2 0", "draw 0", "row 0 3", "pay 0 0..2 0", "draw 0",
                "row 0 3", "pay 0 0..2 0", "draw 0");
    }

    private static void partsOfTheChest() {
        due.promise(23);
        long[][] chests = {{0, 0, 0, 0}, {1, 1, 0, 0}, {2, 1, 1, 0}, {3, 1, 1, 1}, {4, 2, 1, 1}, {5, 2, 2, 1},
            {2000000000, 666666667, 666666667, 666666666}};
        for (long[] c : chests) {
            threeThatPayAlways((int) c[0]).then("close 0").answers("look 0 0 9 = " + c[1], "look 0 1 9 = " + c[2],
                    "look 0 2 9 = " + c[3], "count 0 3 = 0", "look 0 0..2 10 = 1");
        }
        threeThatPayAlways(5).then("stop 0 0", "close 0").answers("look 0 0 9 = 0", "look 0 1 9 = 3",
                "look 0 2 9 = 2", "count 0 3 = 0");
        threeThatPayAlways(5).then("stop 0 0..2", "replace 0 0..2 2", "close 0").answers("look 0 0..2 9 = 0",
                "count 0 3 = 5");
    }

    private static void backOfMoreThanAnInt() {
        due.promise(23);
        String[] rounds = new String[30];
        for (int i = 0; i < 30; i += 3) {
            rounds[i] = "row 0 1";
            rounds[i + 1] = "pay 0 0 0";
            rounds[i + 2] = "draw 0";
        }
        new Stand(due, "ring 0 9999999 9999999 2000000000", "seat 0 0..9 2 0", "open 0").then(rounds).then(
                "late 0 1..9").run("count 0 3 = 2989999901", "close 0 = DONE", "look 0 0 9 = 2989999901",
                "count 0 3 = 0");
    }

    /** Full is who has its place from open() on, without debt, and was never late or stopped. */
    private static void whoIsFull() {
        due.promise(23);
        Stand once = open(0).then("deposit 0 1 10", "row 0 60", "pay 0 1,5 0", "pay 0 2 0", "draw 0");
        once.answers("look 0 0 3 = 0", "look 0 0 10 = 0", "look 0 2 3 = 5", "look 0 2 10 = 0", "look 0 1,5 10 = 1");
        once.then("late 0 2").answers("look 0 2 10 = 0");
        once.then("stop 0 5").answers("look 0 5 10 = 0").then("replace 0 5 2").answers("look 0 5 10 = 0");
        once.then("undo 0").answers("look 0 0,1,2,5 10 = 1");
    }

    private static void fair() {
        due.promise(24);
        made(0).refuses("fair 0 = NONE", "fair MIN,-1,1,40,MAX = NONE");
        open(0).answers("fair 0 = 1", "fair 1 = NONE");
        closed(0).answers("fair 0 = 1");
        for (int kind = 1; kind < 4; kind++) {
            made(kind).answers("fair 0 = NONE");
            open(kind).answers("fair 0 = NONE");
            closed(kind).answers("fair 0 = NONE");
        }
        threeThatPayAlways(0).answers("fair 0 = 1").then("stop 0 0").answers("fair 0 = NONE");
        threeThatPayAlways(0).then("close 0").answers("fair 0 = 1");
        open(0).then("draw 0", "stop 0 0").answers("fair 0 = NONE").then("undo 0").answers("fair 0 = 1");
        open(0).then("stop 0 0", "replace 0 0 2").answers("fair 0 = NONE");
    }

    private static void fairByOneCoin() {
        due.promise(24);
        for (int chest = 0; chest <= 2; chest++) {
            Stand pair = new Stand(due, "ring 0 2 0 " + chest, "seat 0 0 2 0", "seat 0 1 3 0", "open 0", "row 0 2",
                    "pay 0 0,1 0", "draw 0");
            int fair = chest > 0 ? 1 : 0;
            pair.answers("look 0 0 7 = " + (3 + fair), "fair 0 = " + fair);
            pair.then("draw 0").answers("look 0 0 10 = 0", "fair 0 = 1");
            pair.then("row 0 2", "pay 0 0 0", "draw 0", "close 0").answers("fair 0 = " + fair);
            pair.then("undo 0").answers("fair 0 = 1");
        }
    }
}
