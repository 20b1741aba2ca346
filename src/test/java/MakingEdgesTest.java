/** The edges of promises 1 to 8: each sentence's last value that is taken and first that is not. */
final class MakingEdgesTest {
    private static final Due due = new Due("MakingEdgesTest");

    public static void main(String[] args) {
        newObject();
        ringTakes();
        ringRefuses();
        fortyRings();
        seatTakes();
        seatRefuses();
        letter();
        answersTakes();
        answersRefuses();
        orderTakes();
        orderRefuses();
        orderOfSixty();
        lotTakes();
        lotRefuses();
        lotOfTheLastRound();
        openTakes();
        openRefuses();
        openCountsSureties();
        openCountsTheToldOrder();
        due.end();
    }

    /** A ring with one of each on its seats, being made. */
    private static Stand made(int kind) {
        return new Stand(due, "ring " + kind + " 10 2 5", "seat 0 0 2 0", "seat 0 1 4 0", "seat 0 2 3 0",
                "seat 0 3 1 77", "seat 0 5 4 0", "answers 0 1 0");
    }

    private static Stand open(int kind) {
        return made(kind).then("open 0");
    }

    private static Stand closed(int kind) {
        return open(kind).then("4* draw 0", "close 0");
    }

    private static void newObject() {
        due.promise(1);
        new Stand(due).answers("count NONE 0,1 = 0", "count 0 0..13 = NONE", "tell 7 = 1",
                "ring 0 1 0 0 = 0", "image 0 = NONE", "check 0 = -2");
    }

    private static void ringTakes() {
        due.promise(2);
        Stand none = new Stand(due);
        none.answers("ring 0..3 1,2,9999998,9999999 0,1,9999998,9999999 0,1,1999999999,2000000000 = 0");
        none.run("ring 3 9999999 9999999 2000000000 = 0", "count 0 0 = 3", "count 0 1,2 = 9999999",
                "count 0 3 = 2000000000", "count 0 4,5,6 = 0", "look 0 0..59 0 = 0",
                "letter 0 0..59 = 0", "look 0 0..59 11 = NONE");
        none.run("ring 0 1 0 0 = 0", "count 0 0 = 0", "count 0 1 = 1", "count 0 2,3 = 0");
        none.run("ring 1 1 0 0 = 0", "count 0 0 = 1", "ring 2 2 0 0 = 1", "count 1 0 = 2",
                "count 0 1 = 1", "count 1 1 = 2");
    }

    private static void ringRefuses() {
        due.promise(2);
        Stand[] stands = {new Stand(due), made(0)};
        for (Stand s : stands) {
            s.refuses("ring MIN,-2,-1,4,5,MAX 10 0 0 = NONE", "ring 0 MIN,-1,0,10000000,MAX 0 0 = NONE",
                    "ring 0 10 MIN,-1,10000000,MAX 0 = NONE", "ring 0 10 0 MIN,-1,2000000001,MAX = NONE",
                    "ring 4 0 -1 -1 = NONE");
        }
        made(0).run("ring 4 10 0 0 = NONE", "count NONE 0 = 1", "ring 1 10 0 0 = 1");
    }

    private static void fortyRings() {
        due.promise(2);
        new Stand(due, "39* ring 0 10 0 0").answers("ring 0 10 0 0 = 39", "image 38 = 39",
                "count 38 4 = 0", "count 39 4 = NONE");
        Stand all = new Stand(due, "40* ring 0 10 0 0");
        all.answers("count NONE 0 = 40", "count 39 4 = 0", "count 40 4 = NONE", "seat 39 59 2 0 = DONE",
                "seat 40 59 2 0 = RING");
        all.refuses("ring 0..3 10 0 0 = NONE");
        new Stand(due, "ring 0 10 0 0", "39* image 0").refuses("ring 0 10 0 0 = NONE");
    }

    private static void seatTakes() {
        due.promise(3);
        made(0).answers("seat 0 0..59 0..4 MIN,-1,0,MAX = DONE");
        for (int was = 0; was <= 4; was++) {
            for (int what = 0; what <= 4; what++) {
                made(0).run("seat 0 59 " + was + " 3 = DONE", "look 0 59 0 = " + was,
                        "seat 0 59 " + what + " 4 = DONE", "look 0 59 0 = " + what,
                        "letter 0 59 = " + (what == 1 ? 4 : 0), "look 0 58 0 = 0", "look 0 0 0 = 2");
            }
        }
    }

    private static void seatRefuses() {
        due.promise(3);
        made(0).refuses("seat MIN,-1,1,40,MAX 0 2 0 = RING", "seat 1 60 5 0 = RING",
                "seat 0 MIN,-1,60,MAX 2 0 = SEAT", "seat 0 MIN,-1,60,MAX 5 0 = SEAT",
                "seat 0 0,3,4,59 MIN,-1,5,MAX 9 = KIND");
        for (int kind = 0; kind < 4; kind++) {
            open(kind).refuses("seat 0 0,3,4,59 0..4 9 = STATE", "seat 0 MIN,-1,60,MAX 2 0 = STATE",
                    "seat 0 0 -1,5 0 = STATE");
            closed(kind).refuses("seat 0 0,4 0..4 9 = STATE", "seat 0 60 5 0 = STATE");
        }
    }

    private static void letter() {
        due.promise(4);
        made(0).run("letter 0 3 = 77", "letter 0 0,1,2,4,59 = 0", "letter 0 MIN,-1,60,MAX = 0",
                "letter MIN,-1,1,40,MAX 3 = 0");
        made(0).run("seat 0 0 1 MIN = DONE", "letter 0 0 = MIN", "seat 0 0 1 MAX = DONE",
                "letter 0 0 = MAX", "seat 0 0 1 0 = DONE", "letter 0 0 = 0", "look 0 0 0 = 1",
                "seat 0 59 1 -1 = DONE", "letter 0 59 = -1", "letter 0 58 = 0");
        open(0).answers("letter 0 3 = 77", "letter 0 60 = 0");
        closed(0).answers("letter 0 3 = 77", "letter 0 0 = 0");
    }

    private static void answersTakes() {
        due.promise(5);
        Stand edge = new Stand(due, "ring 0 10 2 5", "seat 0 0,59 4 0", "seat 0 1,58 2 0");
        edge.run("answers 0 0 59 = DONE", "look 0 59 11 = 0", "answers 0 59 0 = DONE", "look 0 0 11 = 59",
                "answers 0 59 58 = DONE", "look 0 58 11 = 59", "answers 0 59 1 = DONE",
                "look 0 1 11 = 59");
        edge.run("answers 0 0 1 = DONE", "answers 0 59 1 = DONE", "look 0 1 11 = 59",
                "answers 0 0 1 = DONE", "look 0 1 11 = 0", "answers 0 0 1 = PAID");
    }

    private static void answersRefuses() {
        due.promise(5);
        made(0).refuses("answers MIN,-1,1,40,MAX 1 2 = RING", "answers 1 60 60 = RING",
                "answers 0 MIN,-1,60,MAX 2 = SEAT", "answers 0 4,59 2 = SEAT", "answers 0 4 4 = SEAT",
                "answers 0 0,2,3 1 = KIND", "answers 0 0,2,3 60 = KIND", "answers 0 0 0 = KIND",
                "answers 0 1 MIN,-1,60,MAX = SEAT", "answers 0 1 3,4,59 = SEAT", "answers 0 1 1 = SEAT",
                "answers 0 1 0 = PAID");
        open(0).refuses("answers 0 1 2 = STATE", "answers 0 60 60 = STATE", "answers 0 0 2 = STATE",
                "answers 0 1 0 = STATE");
        closed(0).refuses("answers 0 1 2 = STATE", "answers 0 60 60 = STATE");
    }

    private static void orderTakes() {
        due.promise(6);
        new Stand(due, "ring 0 10 2 5", "seat 0 0,59 2 0").answers("order 0 0,59 = DONE");
        made(0).answers("order 0 0,1,2 = DONE");
    }

    private static void orderRefuses() {
        due.promise(6);
        made(0).then("order 0 2").refuses("order MIN,-1,1,40,MAX 0 = RING", "order 1 60 = RING",
                "order 0 MIN,-1,60,MAX = SEAT", "order 0 3,4,59 = SEAT", "order 0 2 = PAID");
        for (int kind = 1; kind < 4; kind++) {
            made(kind).refuses("order 0 0,1,2 = KIND", "order 0 -1,60,3,4 = SEAT");
        }
        for (int kind = 0; kind < 4; kind++) {
            open(kind).refuses("order 0 0 = STATE", "order 0 60 = STATE");
            closed(kind).refuses("order 0 0 = STATE", "order 0 60 = STATE");
        }
        made(0).then("order 0 2", "open 0").refuses("order 0 2 = STATE");
    }

    private static void orderOfSixty() {
        due.promise(6);
        String[] told = new String[60];
        for (int i = 0; i < 60; i++) {
            told[i] = "order 0 " + (59 - i);
        }
        Stand all = new Stand(due, "ring 0 10 2 0", "seat 0 0..59 2 0").then(told);
        all.refuses("order 0 0 = PAID", "order 0 59 = PAID", "order 0 60 = SEAT");
        all.run("open 0 = DONE", "row 0 60 = DONE", "pay 0 0..59 0 = DONE", "draw 0 = DONE",
                "drawn 0 0 0 = 59");
        all.run("open 0 = DONE", "row 0 60 = DONE", "pay 0 0,1 0 = DONE", "draw 0 = DONE",
                "drawn 0 0 0 = 1", "row 0 1 = DONE", "pay 0 0 0 = DONE", "draw 0 = DONE",
                "drawn 0 1 0 = 0");
    }

    private static void lotTakes() {
        due.promise(7);
        made(1).answers("lot 0 0,1,2147483646,MAX = DONE");
        open(1).answers("lot 0 0,MAX = DONE");
        made(1).then("59* lot 0 MAX").answers("lot 0 0,MAX = DONE", "count 0 11 = 59");
        open(1).then("4* draw 0").answers("lot 0 0 = DONE");
    }

    private static void lotRefuses() {
        due.promise(7);
        made(1).refuses("lot MIN,-1,1,40,MAX 0 = RING", "lot 1 -1 = RING", "lot 0 MIN,-1 = SIZE");
        Stand full = made(1).then("60* lot 0 1");
        full.answers("count 0 11 = 60");
        full.refuses("lot 0 0,1,MAX = FULL", "lot 0 MIN,-1 = SIZE");
        full.then("open 0").refuses("lot 0 0,MAX = FULL", "lot 0 -1 = SIZE");
        full.then("open 0", "4* draw 0", "close 0").refuses("lot 0 0,-1 = STATE");
        closed(1).refuses("lot 0 0,MIN,-1,MAX = STATE");
        int[] others = {0, 2, 3};
        for (int kind : others) {
            made(kind).refuses("lot 0 0,MIN,-1,MAX = KIND");
            open(kind).refuses("lot 0 0,-1 = KIND");
            closed(kind).refuses("lot 0 0,-1 = STATE");
        }
        made(1).then("30* lot 0 1", "open 0", "draw 0", "30* lot 0 1").refuses("lot 0 1 = FULL")
                .then("undo 0").answers("count 0 11 = 30", "lot 0 1 = DONE");
    }

    private static void lotOfTheLastRound() {
        due.promise(7);
        Stand last = new Stand(due, "ring 1 10 2 0", "seat 0 0..59 2 0", "59* lot 0 0", "lot 0 1", "open 0",
                "59* draw 0", "late 0 3,5", "row 0 60", "pay 0 3,5 0", "draw 0");
        last.answers("drawn 0 59 0 = 5", "drawn 0 59 1 = 600", "count 0 5 = 60", "draw 0 = PAID");
    }

    private static void openTakes() {
        due.promise(8);
        for (int what = 2; what <= 4; what++) {
            new Stand(due, "ring 0 10 2 0", "seat 0 59 " + what + " 0").run("open 0 = DONE", "count 0 4 = 1",
                    "count 0 6 = 1", "look 0 59 10 = 1", "look 0 59 1..9 = 0", "look 0 0,1,57,58 1..10 = NONE");
        }
        new Stand(due, "ring 0 10 2 0", "seat 0 0..59 2 0").run("open 0 = DONE", "count 0 6 = 60",
                "look 0 0..59 10 = 1");
    }

    private static void openRefuses() {
        due.promise(8);
        made(0).refuses("open MIN,-1,1,40,MAX = RING");
        new Stand(due, "ring 0 10 2 0").refuses("open 0 = SEAT");
        new Stand(due, "ring 0 10 2 0", "seat 0 0..59 1 5").refuses("open 0 = SEAT");
        new Stand(due, "ring 0 10 2 0", "seat 0 0 2 5", "seat 0 0 0 5").refuses("open 0 = SEAT");
        open(0).refuses("open 0 = STATE");
        closed(0).refuses("open 0 = STATE");
    }

    private static void openCountsSureties() {
        due.promise(8);
        Stand told = new Stand(due, "ring 0 10 2 0", "seat 0 0,59 4 0", "seat 0 1,2 2 0", "answers 0 0 1",
                "answers 0 59 0", "answers 0 59 2");
        told.run("open 0 = DONE", "look 0 1 11 = 0", "look 0 0 11 = 59", "look 0 2 11 = 59",
                "look 0 59 11 = NONE");
        for (int what = 0; what <= 3; what++) {
            told.then("seat 0 59 " + what + " 9").run("open 0 = DONE", "look 0 1 11 = 0",
                    "look 0 0,2 11 = NONE", "draw 0 = DONE", "look 0 2 3 = 10");
            told.then("seat 0 59 " + what + " 9", "seat 0 59 4 0").run("open 0 = DONE",
                    "look 0 0,2 11 = 59", "deposit 0 59 3 = DONE", "draw 0 = DONE", "look 0 0 4 = 3",
                    "look 0 2 3 = 10");
        }
        told.then("seat 0 1 0 0", "seat 0 2 1 9").run("look 0 1 11 = 0", "look 0 2 11 = 59", "open 0 = DONE",
                "look 0 1,2 11 = NONE", "look 0 0 11 = 59");
        for (int what = 2; what <= 4; what++) {
            told.then("seat 0 1 0 0", "seat 0 1 " + what + " 0").run("answers 0 0 1 = PAID", "open 0 = DONE",
                    "look 0 1 11 = 0");
        }
    }

    private static void openCountsTheToldOrder() {
        due.promise(8);
        Stand told = new Stand(due, "ring 0 10 2 0", "seat 0 0..3 2 0", "order 0 3", "order 0 2");
        String[] round = {"open 0 = DONE", "row 0 60 = DONE", "pay 0 0,1,2,3 0 = DONE", "draw 0 = DONE",
            "drawn 0 0 0 = 3"};
        told.run(round);
        for (int what = 0; what <= 1; what++) {
            told.then("seat 0 3 " + what + " 0").run("open 0 = DONE", "row 0 60 = DONE",
                    "pay 0 0,1,2 0 = DONE", "draw 0 = DONE", "drawn 0 0 0 = 2", "drawn 0 0 1 = 30");
        }
        told.then("seat 0 3 0 0", "seat 0 3 2 0").run("order 0 3 = PAID").run(round);
    }
}
