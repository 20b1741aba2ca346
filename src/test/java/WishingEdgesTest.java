/** The edges of promises 15 to 17: each sentence's last value that is taken and first that is not. */
final class WishingEdgesTest {
    private static final Due due = new Due("WishingEdgesTest");

    public static void main(String[] args) {
        bidTakes();
        bidRefuses();
        bidOfTheGreatestPurse();
        needTakes();
        needRefuses();
        yesTakes();
        yesRefuses();
        moreThanHalf();
        wishesEndWithTheirRound();
        due.end();
    }

    /** A payer, a surety, a pair, a letter, nothing and one more payer, being made: PURSE is 40. */
    private static Stand made(int kind) {
        return new Stand(due, "ring " + kind + " 10 2 0", "seat 0 0 2 0", "seat 0 1 4 0", "seat 0 2 3 0",
                "seat 0 3 1 77", "seat 0 5 2 0");
    }

    private static Stand open(int kind) {
        return made(kind).then("open 0");
    }

    /** Place 0 did draw. */
    private static Stand drew(int kind) {
        return open(kind).then("row 0 60", "pay 0 0,1,2,5 0", "pay 0 2 1", "draw 0");
    }

    private static Stand closed(int kind) {
        return open(kind).then("4* draw 0", "close 0");
    }

    private static void bidTakes() {
        due.promise(15);
        open(2).answers("bid 0 0,1,2,5 0,1,39,40 = DONE");
        Stand paid = open(2).then("row 0 60", "pay 0 0,1,2,5 0", "pay 0 2 1");
        paid.run("bid 0 5 40 = DONE", "draw 0 = DONE", "drawn 0 0 0 = 5", "drawn 0 0 2 = 40");
        paid.run("bid 0 5 40 = DONE", "bid 0 5 1 = DONE", "bid 0 2 2 = DONE", "draw 0 = DONE",
                "drawn 0 0 0 = 2", "drawn 0 0 2 = 2");
        paid.run("bid 0 5 40 = DONE", "bid 0 5 0 = DONE", "draw 0 = DONE", "drawn 0 0 0 = 0",
                "drawn 0 0 2 = 0");
        paid.run("bid 0 5 1 = DONE", "draw 0 = DONE", "drawn 0 0 0 = 5", "drawn 0 0 2 = 1");
        open(2).then("4* draw 0").answers("bid 0 0 1 = DONE");
        open(2).then("draw 0", "stop 0 0", "replace 0 0 2").answers("bid 0 0 40 = DONE");
    }

    private static void bidRefuses() {
        due.promise(15);
        Stand[] stands = {open(2), open(2).then("bid 0 1 7"), open(2).then("row 0 60", "pay 0 0 0", "bid 0 0 3")};
        for (Stand s : stands) {
            s.refuses("bid MIN,-1,1,40,MAX 0 1 = RING", "bid 1 60 -1 = RING", "bid 0 MIN,-1,60,MAX 1 = SEAT",
                    "bid 0 3,4,59 1 = SEAT", "bid 0 3,60 -1 = SEAT",
                    "bid 0 0,1,2,5 LEAST,-1,41,MOST = SIZE",
                    "bid 0 0 MIN,MAX,4294967296,4294967297,-4294967295 = SIZE");
        }
        int[] others = {0, 1, 3};
        for (int kind : others) {
            open(kind).refuses("bid 0 0 1 = KIND", "bid 0 60 -1 = KIND");
            made(kind).refuses("bid 0 0 1 = STATE");
            closed(kind).refuses("bid 0 0 1 = STATE");
        }
        made(2).refuses("bid 0 0 1 = STATE", "bid 0 60 -1 = STATE");
        closed(2).refuses("bid 0 0 1 = STATE", "bid 0 60 -1 = STATE");
        drew(2).refuses("bid 0 0 LEAST,-1,0,1,40,41,MOST = PAID");
        drew(2).then("stop 0 0,1").refuses("bid 0 0,1 -1,0,41 = STOPPED");
        drew(2).then("stop 0 0", "replace 0 0 2").refuses("bid 0 0 -1,0,41 = PAID");
        open(2).then("stop 0 5").answers("bid 0 0 40 = DONE", "bid 0 0 41 = SIZE");
    }

    private static void bidOfTheGreatestPurse() {
        due.promise(15);
        Stand sixty = new Stand(due, "ring 2 9999999 0 0", "seat 0 0..59 2 0", "open 0");
        sixty.answers("bid 0 0,59 599999940 = DONE", "bid 0 0,59 599999941 = SIZE");
        new Stand(due, "ring 2 1 0 0", "seat 0 59 2 0", "open 0").answers("bid 0 59 0,1 = DONE",
                "bid 0 59 2 = SIZE");
    }

    private static void needTakes() {
        due.promise(16);
        open(3).answers("need 0 0,1,2,5 = DONE", "count 0 9 = NONE", "count 0 10 = 0");
        new Stand(due, "ring 3 10 2 0", "seat 0 0,59 2 0", "open 0").run("need 0 59 = DONE", "count 0 9 = 59",
                "need 0 0 = DONE", "count 0 9 = 0");
        Stand asked = open(3).then("need 0 5", "yes 0 0,1,5");
        asked.run("count 0 10 = 3", "need 0 1 = DONE", "count 0 9 = 1", "count 0 10 = 0", "yes 0 0,1,5 = DONE");
        asked.run("need 0 5 = DONE", "count 0 9 = 5", "count 0 10 = 0", "yes 0 0,1,5 = DONE");
        open(3).then("4* draw 0").answers("need 0 0 = DONE");
    }

    private static void needRefuses() {
        due.promise(16);
        open(3).then("need 0 5", "yes 0 0,1").refuses("need MIN,-1,1,40,MAX 0 = RING", "need 1 60 = RING",
                "need 0 MIN,-1,60,MAX = SEAT", "need 0 3,4,59 = SEAT");
        for (int kind = 0; kind < 3; kind++) {
            open(kind).refuses("need 0 0,60 = KIND");
            made(kind).refuses("need 0 0 = STATE");
        }
        made(3).refuses("need 0 0,60 = STATE");
        closed(3).refuses("need 0 0,60 = STATE");
        drew(3).then("need 0 5", "yes 0 1").refuses("need 0 0 = PAID");
        drew(3).then("stop 0 0,1", "need 0 5", "yes 0 2").refuses("need 0 0,1 = STOPPED");
        drew(3).then("stop 0 0", "replace 0 0 4").refuses("need 0 0 = PAID");
    }

    private static void yesTakes() {
        due.promise(17);
        Stand asked = open(3).then("need 0 5");
        asked.answers("yes 0 0,1,2,5 = DONE");
        asked.run("yes 0 0 = DONE", "count 0 10 = 1", "yes 0 5 = DONE", "count 0 10 = 2", "yes 0 1,2 = DONE",
                "count 0 10 = 4", "yes 0 0,1,2,5 = PAID", "count 0 10 = 4");
        new Stand(due, "ring 3 10 2 0", "seat 0 0,59 2 0", "open 0", "need 0 0").answers("yes 0 0,59 = DONE");
        asked.then("yes 0 0", "stop 0 0").run("count 0 10 = 0", "replace 0 0 2 = DONE", "count 0 10 = 0",
                "yes 0 0 = DONE", "count 0 10 = 1");
        open(3).then("draw 0", "need 0 0").answers("yes 0 0,1,2,5 = DONE");
    }

    private static void yesRefuses() {
        due.promise(17);
        Stand asked = open(3).then("need 0 5", "yes 0 1");
        asked.refuses("yes MIN,-1,1,40,MAX 0 = RING", "yes 1 60 = RING", "yes 0 MIN,-1,60,MAX = SEAT",
                "yes 0 3,4,59 = SEAT", "yes 0 1 = PAID");
        open(3).refuses("yes 0 0,1,2,5 = SEAT", "yes 0 60 = SEAT");
        open(3).then("stop 0 0").refuses("yes 0 0 = SEAT");
        asked.then("stop 0 5").refuses("yes 0 0,1,5 = SEAT");
        drew(3).refuses("yes 0 0,1 = SEAT");
        drew(3).then("need 0 5").refuses("yes 0 0 = PAID");
        drew(3).then("need 0 5", "stop 0 0,1").refuses("yes 0 0,1 = STOPPED");
        for (int kind = 0; kind < 3; kind++) {
            open(kind).refuses("yes 0 0,60 = KIND");
            made(kind).refuses("yes 0 0 = STATE");
        }
        made(3).refuses("yes 0 0,60 = STATE");
        closed(3).refuses("yes 0 0,60 = STATE");
        open(3).then("need 0 0", "draw 0").refuses("yes 0 0 = SEAT");
    }

    private static void moreThanHalf() {
        due.promise(17);
        for (int n = 2; n <= 60; n = n == 8 ? 59 : n + 1) {
            String last = String.valueOf(n - 1);
            Stand asked = new Stand(due, "ring 3 10 2 0", "seat 0 0.." + last + " 2 0", "open 0", "row 0 60",
                    "pay 0 0.." + last + " 0", "need 0 " + last);
            int half = n / 2;
            asked.then("yes 0 0.." + (half - 1)).run("count 0 10 = " + half, "draw 0 = DONE", "drawn 0 0 0 = 0");
            asked.then("yes 0 0.." + half).run("count 0 10 = " + (half + 1), "draw 0 = DONE",
                    "drawn 0 0 0 = " + last);
            asked.run("draw 0 = DONE", "drawn 0 0 0 = 0");
        }
        drew(3).then("row 0 60", "pay 0 0,1,2,5 0", "pay 0 2 1", "need 0 5", "yes 0 1").run("draw 0 = DONE",
                "drawn 0 1 0 = 1");
        drew(3).then("row 0 60", "pay 0 0,1,2,5 0", "pay 0 2 1", "need 0 5", "yes 0 1,2").run("draw 0 = DONE",
                "drawn 0 1 0 = 5");
        drew(3).then("stop 0 2", "row 0 60", "pay 0 0,1,5 0", "need 0 5", "yes 0 1").run("draw 0 = DONE",
                "drawn 0 1 0 = 1");
        drew(3).then("stop 0 1,2", "row 0 60", "pay 0 0,5 0", "need 0 5", "yes 0 5").run("draw 0 = DONE",
                "drawn 0 1 0 = 5");
        open(3).then("row 0 60", "pay 0 0,1,2 0", "pay 0 2 1", "need 0 5", "yes 0 0,1,2,5").run(
                "draw 0 = DONE", "drawn 0 0 0 = 0");
        open(3).then("row 0 60", "pay 0 5 0", "need 0 1", "yes 0 0,1,2,5").run("draw 0 = DONE",
                "drawn 0 0 0 = 5");
    }

    private static void wishesEndWithTheirRound() {
        due.promise(15);
        open(2).then("bid 0 5 9", "draw 0", "late 0 0,1,2,5", "row 0 60", "pay 0 0,1,2,5 0").run("draw 0 = DONE",
                "drawn 0 1 0 = 0", "drawn 0 1 2 = 0");
        due.promise(16);
        open(3).then("need 0 5", "yes 0 0,1,2,5", "draw 0").run("count 0 9 = NONE", "count 0 10 = 0",
                "yes 0 0 = SEAT", "need 0 5 = DONE", "yes 0 0,1,2,5 = DONE");
        open(3).then("need 0 5", "yes 0 0,1,2,5", "draw 0", "late 0 0,1,2,5", "row 0 60", "pay 0 0,1,2,5 0").run(
                "draw 0 = DONE", "drawn 0 1 0 = 0");
    }
}
