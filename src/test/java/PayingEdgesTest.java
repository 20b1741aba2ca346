/** The edges of promises 9 to 14: each sentence's last value that is taken and first that is not. */
final class PayingEdgesTest {
    private static final Due due = new Due("PayingEdgesTest");

    public static void main(String[] args) {
        depositTakes();
        depositRefuses();
        rowTakes();
        rowRefuses();
        rowGivesBack();
        tear();
        tearRefuses();
        payTakes();
        payRefuses();
        payByHalves();
        cameTells();
        lateTakes();
        lateRefuses();
        lateOfGreatSums();
        due.end();
    }

    /** A payer, a surety for it, a pair, a letter, nothing and one more payer, being made. */
    private static Stand made() {
        return new Stand(due, "ring 0 10 2 5", "seat 0 0 2 0", "seat 0 1 4 0", "seat 0 2 3 0",
                "seat 0 3 1 77", "seat 0 5 2 0", "answers 0 1 0");
    }

    private static Stand open() {
        return made().then("open 0");
    }

    private static Stand noRoundLeft() {
        return open().then("4* draw 0");
    }

    private static Stand closed() {
        return noRoundLeft().then("close 0");
    }

    private static void depositTakes() {
        due.promise(9);
        open().answers("deposit 0 1 1,2,99999999,100000000 = DONE");
        open().run("deposit 0 1 1 = DONE", "look 0 1 5 = 1", "deposit 0 1 100000000 = DONE",
                "look 0 1 5 = 100000001", "look 0 0,2,5 5 = 0", "look 0 1 6,9 = 0", "count 0 3 = 5");
        open().then("22* deposit 0 1 100000000").answers("look 0 1 5 = 2200000000");
        noRoundLeft().run("deposit 0 1 9 = DONE", "look 0 1 5 = 9");
        open().then("stop 0 0", "replace 0 0 4").run("deposit 0 0 7 = DONE", "look 0 0 5 = 7");
        new Stand(due, "ring 0 10 2 5", "seat 0 0,59 4 0", "open 0").answers("deposit 0 0,59 1 = DONE");
    }

    private static void depositRefuses() {
        due.promise(9);
        open().then("deposit 0 1 3").refuses("deposit MIN,-1,1,40,MAX 1 1 = RING", "deposit 1 60 0 = RING",
                "deposit 0 MIN,-1,60,MAX 1 = SEAT", "deposit 0 3,4,59 1 = SEAT", "deposit 0 3,60 0 = SEAT",
                "deposit 0 0,2,5 1 = KIND", "deposit 0 0,2,5 MIN,0,100000001 = KIND",
                "deposit 0 1 MIN,-100000000,-1,0,100000001,MAX = SIZE");
        made().refuses("deposit 0 1 1 = STATE", "deposit 0 60 0 = STATE");
        closed().refuses("deposit 0 1 1 = STATE", "deposit 0 60 0 = STATE");
        open().then("stop 0 0,1,2").refuses("deposit 0 0,1,2 1 = STOPPED", "deposit 0 0,1,2 0 = STOPPED");
        open().then("stop 0 1", "replace 0 1 2").refuses("deposit 0 1 1 = KIND");
        open().then("stop 0 1", "replace 0 1 3").refuses("deposit 0 1 1 = KIND");
    }

    private static void rowTakes() {
        due.promise(10);
        for (int n = 0; n <= 60; n += n == 1 ? 57 : 1) {
            open().run("count 0 7 = NONE", "row 0 " + n + " = DONE", "count 0 7 = " + n);
        }
        open().run("row 0 60 = DONE", "row 0 0 = DONE", "count 0 7 = 0", "came 0 0 = NONE", "row 0 60 = DONE",
                "came 0 0..59 = 0");
        open().then("3* draw 0").run("row 0 60 = DONE", "count 0 7 = 60");
    }

    private static void rowRefuses() {
        due.promise(10);
        Stand[] stands = {open(), open().then("row 0 3", "pay 0 0,1,2 0"), open().then("draw 0", "row 0 0")};
        for (Stand s : stands) {
            s.refuses("row MIN,-1,1,40,MAX 3 = RING", "row 1 -1 = RING", "row 0 MIN,-1,61,MAX = SIZE");
        }
        made().refuses("row 0 MIN,-1,0,3,60,61,MAX = STATE");
        closed().refuses("row 0 MIN,-1,0,3,60,61,MAX = STATE");
        noRoundLeft().refuses("row 0 0,3,60 = PAID", "row 0 MIN,-1,61,MAX = PAID");
    }

    private static void rowGivesBack() {
        due.promise(10);
        Stand paid = open().then("row 0 60", "pay 0 0,1 0", "pay 0 2 1");
        String[] ways = {"row 0 0", "row 0 1", "row 0 60", "tear 0"};
        for (String way : ways) {
            paid.run("look 0 0,1 6 = 10", "look 0 2 6 = 5", way + " = DONE", "look 0 0,1,2,5 6 = 0",
                    "look 0 0,1,2,5 9 = 0", "count 0 3 = 5", "row 0 60 = DONE", "came 0 0..5 = 0",
                    "pay 0 0,1,2 0 = DONE", "pay 0 2 1 = DONE", "look 0 0,1,2 6 = 10");
        }
        Stand later = paid.then("draw 0", "row 0 60", "pay 0 0 0");
        for (String way : ways) {
            later.run("look 0 0 6 = 20", way + " = DONE", "look 0 0,1 6 = 10", "look 0 2 6 = 5");
        }
    }

    private static void tear() {
        due.promise(11);
        for (int n = 0; n <= 60; n += 20) {
            open().then("row 0 " + n).run("tear 0 = DONE", "count 0 7 = NONE", "came 0 0 = NONE",
                    "tear 0 = ROW");
        }
        open().run("row 0 60 = DONE", "tear 0 = DONE", "pay 0 0 0 = ROW", "row 0 60 = DONE",
                "pay 0 0 0 = DONE");
    }

    private static void tearRefuses() {
        due.promise(11);
        open().then("row 0 3", "pay 0 0 0").refuses("tear MIN,-1,1,40,MAX = RING");
        open().refuses("tear 0 = ROW");
        open().then("row 0 3", "tear 0").refuses("tear 0 = ROW");
        open().then("row 0 3", "pay 0 0 0", "draw 0").refuses("tear 0 = ROW");
        noRoundLeft().refuses("tear 0 = ROW");
        made().refuses("tear 0 = STATE");
        closed().refuses("tear 0 = STATE");
    }

    private static void payTakes() {
        due.promise(12);
        open().then("row 0 6").run("pay 0 5 0 = DONE", "came 0 5 = 10", "look 0 5 6 = 10", "came 0 0..4 = 0",
                "look 0 0 6 = 0");
        open().then("row 0 1").answers("pay 0 0 0 = DONE", "pay 0 1 0 = ENDS");
        open().then("row 0 2").answers("pay 0 1 0 = DONE", "pay 0 2 0,1 = ENDS");
        open().then("row 0 3").answers("pay 0 2 0,1 = DONE", "pay 0 5 0 = ENDS");
        Stand last = new Stand(due, "ring 0 9999999 2 5", "seat 0 59 2 0", "open 0");
        last.then("row 0 60").run("pay 0 59 0 = DONE", "came 0 59 = 9999999", "look 0 59 6 = 9999999");
        last.then("row 0 59").answers("pay 0 59 0 = ENDS");
        open().then("row 0 6", "pay 0 0 0", "stop 0 0", "replace 0 0 3").run("came 0 0 = 0",
                "pay 0 0 1 = DONE", "came 0 0 = 5", "pay 0 0 0 = DONE", "came 0 0 = 10");
        open().then("row 0 6", "pay 0 2 0,1", "stop 0 2", "replace 0 2 2").run("pay 0 2 1 = KIND",
                "pay 0 2 0 = DONE", "came 0 2 = 10", "pay 0 2 0 = PAID");
    }

    private static void payRefuses() {
        due.promise(12);
        Stand paid = open().then("row 0 5", "pay 0 0,2 0", "pay 0 2 1");
        paid.refuses("pay MIN,-1,1,40,MAX 1 0 = RING", "pay 1 60 2 = RING", "pay 0 MIN,-1,60,MAX 0 = SEAT",
                "pay 0 3,4,59 0 = SEAT", "pay 0 3,4,60 1,2 = SEAT", "pay 0 0,1,5 1 = KIND",
                "pay 0 0,1,2,5 MIN,-1,2,MAX = SIZE", "pay 0 5 0 = ENDS", "pay 0 0 0 = PAID",
                "pay 0 2 0,1 = PAID");
        open().refuses("pay 0 0,1,2,5 0 = ROW", "pay 0 2 1 = ROW", "pay 0 0 1 = KIND", "pay 0 2 2 = SIZE",
                "pay 0 3 0 = SEAT");
        open().then("row 0 0").refuses("pay 0 0,1,2,5 0 = ENDS", "pay 0 2 1 = ENDS", "pay 0 0 1 = KIND",
                "pay 0 2 2 = SIZE");
        open().then("row 0 6", "pay 0 0 0", "stop 0 0,2").refuses("pay 0 0,2 0,1,2 = STOPPED");
        open().then("stop 0 0,2").refuses("pay 0 0,2 0,1,2 = STOPPED");
        made().refuses("pay 0 0 0 = STATE", "pay 0 60 2 = STATE");
        closed().refuses("pay 0 0 0 = STATE", "pay 0 60 2 = STATE");
        noRoundLeft().refuses("pay 0 0 0 = ROW", "pay 0 2 1 = ROW");
    }

    private static void payByHalves() {
        due.promise(12);
        long[][] halves = {{1, 1, 0}, {2, 1, 1}, {3, 2, 1}, {4, 2, 2}, {9999998, 4999999, 4999999},
            {9999999, 5000000, 4999999}};
        for (long[] h : halves) {
            Stand pair = new Stand(due, "ring 0 " + h[0] + " 0 0", "seat 0 0 3 0", "open 0", "row 0 1");
            pair.run("pay 0 0 0 = DONE", "came 0 0 = " + h[1], "look 0 0 6 = " + h[1], "pay 0 0 0 = PAID",
                    "pay 0 0 1 = DONE", "came 0 0 = " + h[0], "look 0 0 6 = " + h[0], "pay 0 0 0,1 = PAID");
            pair.run("pay 0 0 1 = DONE", "came 0 0 = " + h[2], "pay 0 0 1 = PAID", "pay 0 0 0 = DONE",
                    "came 0 0 = " + h[0], "pay 0 0 0,1 = PAID", "draw 0 = DONE", "drawn 0 0 1 = " + h[0]);
        }
    }

    private static void cameTells() {
        due.promise(13);
        open().refuses("came 0 0,59 = NONE", "came 0 MIN,-1,60,MAX = NONE");
        made().answers("came 0 0 = NONE");
        closed().answers("came 0 0 = NONE");
        for (int n = 1; n <= 60; n += n == 1 ? 58 : 1) {
            open().then("row 0 " + n).answers("came 0 " + (n - 1) + " = 0", "came 0 " + n + " = NONE",
                    "came 0 MIN,-1,60,MAX = NONE", "came MIN,-1,1,40,MAX 0 = NONE");
        }
        open().then("row 0 0").answers("came 0 0,-1 = NONE");
        open().then("row 0 6", "pay 0 0 0", "pay 0 2 1").answers("came 0 0 = 10", "came 0 2 = 5",
                "came 0 1,3,4,5 = 0");
        open().then("row 0 6", "pay 0 0 0", "draw 0").answers("came 0 0 = NONE").then("row 0 6")
                .answers("came 0 0 = 0");
    }

    private static void lateTakes() {
        due.promise(14);
        open().then("2* draw 0").run("look 0 0 3 = 20", "late 0 0 = DONE", "look 0 0 3 = 0", "look 0 0 6 = 20",
                "count 0 3 = 27", "count 0 13 = 2", "late 0 0 = PAID", "look 0 1,2,5 3 = 20",
                "look 0 0 10 = 0");
        Stand free = new Stand(due, "ring 0 2 0 0", "seat 0 0,59 3 0", "open 0", "row 0 60", "pay 0 59 0", "draw 0");
        free.run("look 0 59 3 = 1", "late 0 59 = DONE", "count 0 13 = 0", "count 0 3 = 2", "look 0 59 6 = 2",
                "late 0 0 = DONE", "look 0 0 6 = 2", "count 0 3 = 4", "count 0 13 = 0");
        noRoundLeft().run("late 0 5 = DONE", "look 0 5 6 = 40", "count 0 3 = 47");
    }

    private static void lateRefuses() {
        due.promise(14);
        Stand owing = open().then("row 0 6", "pay 0 0 0", "draw 0");
        owing.refuses("late MIN,-1,1,40,MAX 1 = RING", "late 1 60 = RING", "late 0 MIN,-1,60,MAX = SEAT",
                "late 0 3,4,59 = SEAT", "late 0 0 = PAID");
        owing.then("late 0 1").refuses("late 0 1 = PAID");
        owing.then("stop 0 0,1").refuses("late 0 0,1 = STOPPED");
        owing.then("stop 0 1", "replace 0 1 2").refuses("late 0 1 = PAID");
        open().refuses("late 0 0,1,2,5 = PAID");
        made().refuses("late 0 0,60 = STATE");
        closed().refuses("late 0 0,60 = STATE");
    }

    private static void lateOfGreatSums() {
        due.promise(14);
        new Stand(due, "ring 0 9999999 9999999 2000000000", "seat 0 0..9 2 0", "open 0", "draw 0").run(
                "count 0 3 = 2000000000", "late 0 0..9 = DONE", "count 0 3 = 2199999980",
                "count 0 13 = 99999990", "look 0 9 6 = 9999999");
        Stand often = new Stand(due, "ring 0 1 9999999 0", "seat 0 0..59 2 0", "open 0", "draw 0", "late 0 0..59",
                "draw 0", "late 0 0..59", "draw 0", "late 0 0..59", "draw 0", "late 0 0..59");
        often.answers("count 0 13 = 2399999760");
    }
}
