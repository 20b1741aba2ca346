/** The edges of promises 29 to 31: each sentence's last value that is taken and first that is not. */
final class LookEdgesTest {
    private static final Due due = new Due("LookEdgesTest");

    public static void main(String[] args) {
        lookRefuses();
        lookBeingMade();
        lookAtNoPlace();
        lookAtEachOf();
        asRefuses();
        asOfTheBegin();
        asBehindUndo();
        asOfSixty();
        countRefuses();
        countAtFirst();
        countAtTheMost();
        countOfAll();
        due.end();
    }

    /** A payer, a surety for it, a pair, a letter, nothing and one more payer, being made. */
    private static Stand made() {
        return new Stand(due, "ring 2 10 2 5", "seat 0 0 2 0", "seat 0 1 4 0", "seat 0 2 3 0", "seat 0 3 1 77",
                "seat 0 5 2 0", "answers 0 1 0");
    }

    /** Two rounds: seat 2 drew by its bid, seat 0 is late by its surety's deposit and by debt. */
    private static Stand open() {
        return made().then("open 0", "deposit 0 1 13", "bid 0 2 8", "row 0 60", "pay 0 1,2,5 0", "pay 0 2 1",
                "draw 0", "row 0 60", "pay 0 1,2,5 0", "draw 0");
    }

    private static void lookRefuses() {
        due.promise(29);
        Stand[] stands = {made(), open(), open().then("2* draw 0", "close 0")};
        for (Stand s : stands) {
            s.refuses("look MIN,-1,1,40,MAX 0 0..11 = NONE", "look 0 MIN,-1,60,MAX 0..11 = NONE",
                    "look 0 0,3,4,59 MIN,-1,12,13,MAX = NONE", "look 1 60 12 = NONE");
        }
    }

    private static void lookBeingMade() {
        due.promise(29);
        made().answers("look 0 0,5 0 = 2", "look 0 1 0 = 4", "look 0 2 0 = 3", "look 0 3 0 = 1",
                "look 0 4,6,59 0 = 0", "look 0 0..5,59 1..10 = NONE", "look 0 0 11 = 1",
                "look 0 1..5,59 11 = NONE");
        new Stand(due, "ring 0 1 0 0", "seat 0 0 4 0", "seat 0 59 2 0", "answers 0 0 59").answers("look 0 59 11 = 0",
                "look 0 59 0 = 2", "look 0 58 0 = 0");
    }

    private static void lookAtNoPlace() {
        due.promise(29);
        open().answers("look 0 3 0 = 1", "look 0 4,6,59 0 = 0", "look 0 3,4,6,59 1..11 = NONE");
    }

    private static void lookAtEachOf() {
        due.promise(29);
        long[][] places = {{2, 0, 0, 7, 13, 0, 0, 0, 3, 0, 0, 1}, {4, 1, 0, 0, 0, 0, 20, 33, 3, 0, 1, -1},
            {3, 1, 0, 5, 0, 0, 15, 32, 0, 0, 0, -1}, {2, 0, 0, 0, 0, 0, 20, 0, 2, 0, 1, -1}};
        int[] seats = {0, 1, 2, 5};
        for (int i = 0; i < seats.length; i++) {
            for (int what = 0; what < 12; what++) {
                open().answers("look 0 " + seats[i] + " " + what + " = " + places[i][what]);
            }
        }
        open().then("stop 0 1").answers("look 0 1 0 = 4", "look 0 1 2 = 1", "look 0 1 10 = 0", "look 0 0 11 = 1");
        open().then("deposit 0 1 6", "2* draw 0", "close 0").answers("look 0 1 0 = 4", "look 0 1 5 = 0",
                "look 0 1 9 = 0", "look 0 0 4 = 19", "look 0 5 10 = 0");
    }

    private static void asRefuses() {
        due.promise(30);
        made().refuses("as 0 MIN,-1,0,1,60,MAX 0 0..11 = NONE");
        made().then("open 0").refuses("as 0 MIN,-1,0,1,60,MAX 0 0..11 = NONE");
        Stand[] stands = {open(), open().then("image 0")};
        for (Stand s : stands) {
            s.refuses("as MIN,-1,2,40,MAX 0 0 0..11 = NONE", "as 0 MIN,-1,2,3,59,60,MAX 0 0..11 = NONE",
                    "as 0 0,1 MIN,-1,60,MAX 0..11 = NONE", "as 0 0,1 0,3,4 MIN,-1,12,MAX = NONE",
                    "as 1 0,1 0 0..11 = NONE");
        }
    }

    private static void asOfTheBegin() {
        due.promise(30);
        Stand[] stands = {open(), open().then("stop 0 0,1", "replace 0 1 2"),
            open().then("row 0 60", "pay 0 0,1 0", "2* draw 0", "close 0")};
        for (Stand s : stands) {
            s.answers("as 0 0 0 0 = 2", "as 0 0 0 1..9 = 0", "as 0 0 0,1,2,5 10 = 1", "as 0 0 0 11 = 1",
                    "as 0 0 1 0 = 4", "as 0 0 1 5 = 13", "as 0 0 1,2,5 6 = 10", "as 0 0 1,2,5 7,8,9 = 0",
                    "as 0 0 3 0 = 1", "as 0 0 4,59 0 = 0", "as 0 0 3,4,59 1..11 = NONE");
            s.answers("as 0 1 0 3 = 0", "as 0 1 0 4 = 10", "as 0 1 1 5 = 3", "as 0 1 1,5 6 = 20",
                    "as 0 1 2 6 = 15", "as 0 1 2 1 = 1", "as 0 1 2 7 = 32", "as 0 1 0,1 8 = 3", "as 0 1 5 8 = 2",
                    "as 0 1 0 10 = 0", "as 0 1 1 1 = 0", "as 0 1 0..2,5 2 = 0");
        }
    }

    private static void asBehindUndo() {
        due.promise(30);
        open().then("undo 0").answers("as 0 0 1 5 = 13", "as 0 1 0 0..11 = NONE", "as 0 2 0 0..11 = NONE");
        open().then("2* undo 0").answers("as 0 0,1 0 0..11 = NONE");
        open().then("undo 0", "pay 0 0 0", "stop 0 5", "draw 0").answers("as 0 1 0 6 = 10", "as 0 1 5 2 = 1",
                "as 0 0 5 2 = 0", "as 0 2 0 0 = NONE");
        open().then("image 0", "draw 1").answers("as 1 0,1 0 0..11 = NONE", "as 1 2 0 3 = 7", "as 0 1 0 4 = 10",
                "as 0 2 0 3 = NONE");
    }

    private static void asOfSixty() {
        due.promise(30);
        new Stand(due, "ring 0 10 2 0", "seat 0 0..59 2 0", "open 0", "60* draw 0").answers("as 0 0 0,59 3 = 0",
                "as 0 1 59 3 = 10", "as 0 58 59 3 = 580", "as 0 59 0,59 3 = 590", "as 0 60 0,59 3 = NONE",
                "as 0 59 60 3 = NONE");
    }

    private static void countRefuses() {
        due.promise(31);
        Stand[] stands = {made(), open(), open().then("2* draw 0", "close 0")};
        for (Stand s : stands) {
            s.refuses("count MIN,-2,1,40,MAX 0..13 = NONE", "count 0 MIN,-1,14,15,MAX = NONE",
                    "count NONE MIN,-1,2..14,MAX = NONE");
        }
    }

    private static void countAtFirst() {
        due.promise(31);
        long[] first = {2, 10, 2, 5, 0, 0, 0, -1, 0, -1, 0, 0, 0, 0};
        for (int what = 0; what < first.length; what++) {
            made().answers("count 0 " + what + " = " + first[what]);
        }
        made().then("open 0").answers("count 0 4 = 1", "count 0 5 = 0", "count 0 6 = 4", "count 0 7,9 = NONE",
                "count 0 8,10..13 = 0");
    }

    private static void countAtTheMost() {
        due.promise(31);
        Stand need = new Stand(due, "ring 3 9999999 9999999 2000000000", "seat 0 0..59 2 0", "open 0", "row 0 60",
                "need 0 59", "yes 0 0..59");
        need.answers("count 0 6,7,10 = 60", "count 0 9 = 59", "count 0 0 = 3", "count 0 1,2 = 9999999");
        need.then("need 0 0").answers("count 0 9,10 = 0", "count 0 7 = 60");
        need.then("stop 0 1..59").answers("count 0 8 = 59", "count 0 10 = 1", "count 0 9 = NONE", "count 0 6 = 60");
        need.then("60* draw 0").answers("count 0 5,12 = 60", "count 0 7,9 = NONE", "count 0 4 = 1")
                .then("close 0").answers("count 0 4 = 2", "count 0 12 = 60", "count 0 3 = 2000000000");
        new Stand(due, "ring 1 1 0 0", "seat 0 0 2 0", "60* lot 0 0").answers("count 0 11 = 60");
        open().answers("count 0 12 = 2").then("undo 0").answers("count 0 12 = 1").then("undo 0").answers(
                "count 0 12 = 0");
    }

    private static void countOfAll() {
        due.promise(31);
        new Stand(due, "40* ring 0 1 0 0", "180* tell 0").answers("count NONE 0 = 40", "count NONE 1 = 180");
        new Stand(due, "ring 0 1 0 0", "image 0", "2* tell 0").answers("count NONE 0,1 = 2");
    }
}
