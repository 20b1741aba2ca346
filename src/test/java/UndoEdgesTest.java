/** The edges of promises 25 to 28: each sentence's last value that is taken and first that is not. */
final class UndoEdgesTest {
    private static final Due due = new Due("UndoEdgesTest");

    public static void main(String[] args) {
        undoRefuses();
        undoOfSixty();
        undoOfAllThatCameBehind();
        undoOfAnyState();
        imageTakes();
        imageRefuses();
        imageHasNothingToBeUndone();
        imageStandsAlone();
        tell();
        checkOfNoRound();
        checkByHowMany();
        checkByWhat();
        checkOfSixty();
        due.end();
    }

    private static Stand payers(int kind, int many) {
        return new Stand(due, "ring " + kind + " 10 2 0", "seat 0 0.." + (many - 1) + " 2 0", "open 0");
    }

    private static void undoRefuses() {
        due.promise(25);
        Stand made = new Stand(due, "ring 0 10 2 0", "seat 0 0,1 2 0", "order 0 1");
        made.refuses("undo 0 = NONE", "undo MIN,-1,1,40,MAX = NONE");
        made.then("open 0", "row 0 2", "pay 0 0 0").refuses("undo 0 = NONE", "undo 1 = NONE");
        payers(0, 2).then("draw 0", "stop 0 0").refuses("undo MIN,-1,1,40,MAX = NONE");
        payers(0, 2).then("draw 0", "undo 0").refuses("undo 0 = NONE");
        payers(0, 2).then("2* draw 0", "undo 0", "undo 0").refuses("undo 0 = NONE");
        payers(0, 2).then("draw 0", "undo 0", "row 0 2", "pay 0 1 0").refuses("undo 0 = NONE");
    }

    private static void undoOfSixty() {
        due.promise(25);
        Stand all = payers(0, 60).then("60* draw 0");
        all.answers("undo 0 = 59", "count 0 12 = 60", "count 0 5 = 60");
        String[] rows = new String[122];
        for (int i = 0; i < 60; i++) {
            rows[2 * i] = "undo 0 = " + (59 - i);
            rows[2 * i + 1] = "look 0 59 3 = " + 10 * (59 - i);
        }
        rows[120] = "undo 0 = NONE";
        rows[121] = "count 0 12 = 0";
        all.run(rows);
        all.then("close 0").run("undo 0 = 59", "count 0 4 = 1", "draw 0 = DONE", "draw 0 = PAID",
                "close 0 = DONE");
    }

    /** Behind an undo all shows as if nothing had come behind the stand ahead of the draw. */
    private static void undoOfAllThatCameBehind() {
        due.promise(25);
        for (int kind = 0; kind < 4; kind++) {
            Stand ahead = new Stand(due, "ring " + kind + " 10 2 7", "seat 0 0,5 2 0", "seat 0 1 4 0",
                    "seat 0 2 3 0", "seat 0 3 1 9", "answers 0 1 0").then(toldFor(kind)).then("open 0",
                    "deposit 0 1 13", "row 0 6", "pay 0 1 0", "pay 0 2 1").then(wishedIn(kind));
            String[][] behind = {{}, {"row 0 60", "pay 0 0..2 0"}, {"late 0 5"},
                {"stop 0 0,1", "replace 0 1 2"}, {"deposit 0 1 5", "row 0 0", "tear 0"},
                {"draw 0", "stop 0 2", "undo 0", "stop 0 5"},
                {"3* draw 0", "late 0 2", "close 0", "3* undo 0"}};
            for (String[] more : behind) {
                String[] calls = new String[more.length + 2];
                calls[0] = "draw 0";
                System.arraycopy(more, 0, calls, 1, more.length);
                calls[more.length + 1] = "undo 0";
                ahead.sameAs(ahead.then(calls));
            }
            Stand backed = ahead.then("stop 0 1,2");
            backed.answers("look 0 1 9 = 13");
            backed.sameAs(backed.then("draw 0", "replace 0 1 4", "deposit 0 1 3", "undo 0"));
            ahead.then("draw 0", "stop 0 5").run("undo 0 = 0", "count 0 8 = 0", "look 0 5 2 = 0",
                    "count 0 3 = 7");
        }
        Stand lots = payers(1, 3).then("lot 0 2", "row 0 3", "pay 0 0..2 0");
        lots.sameAs(lots.then("draw 0", "lot 0 1", "lot 0 0", "undo 0"));
        lots.then("draw 0", "lot 0 1", "undo 0").run("count 0 11 = 1", "draw 0 = DONE", "drawn 0 0 0 = 2",
                "row 0 3 = DONE", "pay 0 0..2 0 = DONE", "draw 0 = DONE", "drawn 0 1 0 = 0");
    }

    private static String[] toldFor(int kind) {
        String[][] told = {{"order 0 5,0"}, {"lot 0 3"}, {}, {}};
        return told[kind];
    }

    private static String[] wishedIn(int kind) {
        String[][] wished = {{}, {}, {"bid 0 2,5 4"}, {"need 0 5", "yes 0 0,1"}};
        return wished[kind];
    }

    private static void undoOfAnyState() {
        due.promise(25);
        payers(0, 2).then("2* draw 0", "close 0").run("undo 0 = 1", "count 0 4 = 1", "undo 0 = 0",
                "count 0 4 = 1", "undo 0 = NONE", "count 0 4 = 1");
        Stand owed = payers(0, 2).then("row 0 2", "pay 0 0,1 0", "draw 0", "stop 0 1", "draw 0", "close 0");
        owed.run("stops 0 0 4 = 8", "undo 0 = 1", "stops 0 0 4 = 0", "stops 0 0 2 = 8", "undo 0 = 0",
                "stops 0 0 2 = NONE", "count 0 8 = 0");
    }

    private static void imageTakes() {
        due.promise(26);
        Stand made = new Stand(due, "ring 0 10 2 7", "seat 0 0,5 2 0", "seat 0 1 4 0", "seat 0 2 3 0",
                "seat 0 3 1 9", "answers 0 1 0", "order 0 5,0");
        Stand[] stands = {made, made.then("open 0"), made.then("open 0", "row 0 6", "pay 0 1,2 0"),
            made.then("open 0", "draw 0", "late 0 0", "stop 0 5", "row 0 6", "pay 0 1 0"),
            made.then("open 0", "4* draw 0", "stop 0 1", "close 0"),
            made.then("open 0", "deposit 0 1 40", "row 0 6", "pay 0 0,1,5 0", "draw 0", "stop 0 1,0,5",
                    "replace 0 0 4"),
            made.then("open 0", "deposit 0 1 40", "row 0 6", "pay 0 0,1,5 0", "draw 0", "stop 0 1,0,5", "3* draw 0",
                    "close 0"),
            payers(1, 4).then("lot 0 3", "lot 0 2", "lot 0 1"), payers(2, 4).then("bid 0 2,3 7"),
            payers(3, 4).then("need 0 3", "yes 0 0,1,2"), payers(0, 60).then("60* draw 0")};
        for (Stand s : stands) {
            s.answers("image 0 = 1");
            s.imagesItself();
        }
        new Stand(due, "ring 0 10 2 0", "38* image 0").answers("image 0,38 = 39", "count NONE 0 = 39");
    }

    private static void imageRefuses() {
        due.promise(26);
        new Stand(due).refuses("image MIN,-1,0,1,40,MAX = NONE");
        payers(0, 2).refuses("image MIN,-1,1,40,MAX = NONE");
        payers(0, 2).then("39* image 0").refuses("image 0,1,39 = NONE", "image 40,-1 = NONE")
                .answers("count NONE 0 = 40");
    }

    private static void imageHasNothingToBeUndone() {
        due.promise(26);
        Stand two = payers(0, 3).then("2* draw 0", "image 0");
        two.answers("count 1 12 = 0", "undo 1 = NONE", "count 0 12 = 2", "undo 0 = 1", "as 1 0,1 0 3 = NONE",
                "as 0 1 0 3 = 10", "drawn 1 0,1 1 = 0", "count 1 5 = 2");
        two.then("draw 1").answers("count 1 12 = 1", "as 1 2 0 3 = 20", "as 1 0,1 0 3 = NONE", "undo 1 = 2");
        two.then("draw 1", "undo 1").answers("undo 1 = NONE", "count 1 12 = 0", "count 1 5 = 2",
                "as 1 2 0 3 = NONE", "drawn 1 0,1 1 = 0", "drawn 1 2 1 = NONE");
        two.then("draw 1", "image 1").answers("count 2 12 = 0", "undo 2 = NONE", "count 2 5 = 3");
        payers(0, 1).then("image 0", "draw 1").run("undo 1 = 0", "undo 1 = NONE", "count 1 5 = 0");
        payers(0, 1).then("draw 0", "close 0", "image 0").run("undo 1 = NONE", "count 1 4 = 2", "undo 0 = 0",
                "count 1 4 = 2", "count 0 4 = 1");
    }

    private static void imageStandsAlone() {
        due.promise(26);
        Stand one = payers(0, 3).then("row 0 3", "pay 0 0..2 0", "draw 0", "stop 0 2");
        one.then("image 0", "replace 1 2 2", "row 1 3", "pay 1 0 0", "draw 1", "late 1 1", "stop 1 1").answers(
                "look 0 2 2 = 1", "count 0 7 = NONE", "look 0 0 6 = 10", "count 0 5 = 1", "count 0 8 = 1",
                "count 0 13 = 0", "count 1 8 = 2", "look 0 1 2 = 0");
        one.then("image 0", "undo 0").answers("count 1 5 = 1", "count 1 8 = 1", "stops 1 0 0 = 2",
                "drawn 1 0 1 = 30", "look 1 0 1 = 1", "count 0 5 = 0");
        one.then("image 0", "undo 0", "stop 0 0").answers("stops 1 0 0 = 2", "stops 0 0 0 = 0");
    }

    private static void tell() {
        due.promise(27);
        new Stand(due).run("tell LEAST = 1", "tell MOST = 2", "tell 0 = 3", "count NONE 1 = 3");
        new Stand(due, "179* tell 0").answers("tell LEAST,MOST,0 = 180", "count NONE 1 = 179");
        Stand full = new Stand(due, "180* tell 0");
        full.refuses("tell LEAST,-1,0,MOST = NONE");
        full.answers("count NONE 1 = 180");
        full.then("check 0").answers("count NONE 1 = 0", "tell 5 = 1");
    }

    private static void checkOfNoRound() {
        due.promise(28);
        new Stand(due).answers("check MIN,-2,-1,0,1,40,MAX = -2");
        new Stand(due, "ring 0 10 2 0").answers("check 0 = NONE", "check 1 = -2").then("tell 0").answers(
                "check 0 = -2");
        payers(0, 2).answers("check 0 = NONE", "check MIN,-2,-1,1,40,MAX = -2");
        payers(0, 2).then("3* tell 0").answers("check 0 = -2");
        payers(0, 2).then("draw 0", "undo 0").answers("check 0 = NONE");
    }

    private static void checkByHowMany() {
        due.promise(28);
        Stand two = payers(0, 3).then("row 0 3", "pay 0 0..2 0", "draw 0", "draw 0");
        String[] told = {"tell 0", "tell 30", "tell 0", "tell -1", "tell 0", "tell 0", "tell 0"};
        for (int many = 0; many <= 7; many++) {
            String[] some = java.util.Arrays.copyOf(told, many);
            two.then(some).run("count NONE 1 = " + many, "check 0 = " + (many == 6 ? -1 : -2),
                    "count NONE 1 = 0");
            two.then(some).run("check 1 = -2", "count NONE 1 = 0");
            two.then(some).then("undo 0").run("check 0 = " + (many == 3 ? -1 : -2));
            two.then(some).then("image 0").run("check 1 = " + (many == 6 ? -1 : -2));
        }
    }

    private static void checkByWhat() {
        due.promise(28);
        Stand two = payers(2, 3).then("bid 0 1 4", "row 0 3", "pay 0 0..2 0", "draw 0", "draw 0");
        long[] right = {1, 30, 4, -1, 0, 0};
        long[] wrong = {Long.MIN_VALUE, Long.MAX_VALUE, 2, 29, 31, 5, 4294967296L, -2};
        for (int at = 0; at < right.length; at++) {
            for (long w : wrong) {
                String[] told = new String[right.length];
                for (int i = 0; i < told.length; i++) {
                    told[i] = "tell " + (i == at ? w : right[i]);
                }
                two.then(told).run("check 0 = " + at / 3);
            }
            String[] wide = new String[right.length];
            for (int i = 0; i < wide.length; i++) {
                wide[i] = "tell " + (i == at ? right[i] + 4294967296L : right[i]);
            }
            two.then(wide).run("check 0 = " + at / 3);
        }
        two.then("tell 0", "5* tell 9").run("check 0 = 0");
    }

    private static void checkOfSixty() {
        due.promise(28);
        Stand all = payers(0, 60).then("60* draw 0");
        String[] told = new String[180];
        for (int i = 0; i < 180; i++) {
            told[i] = "tell " + (i % 3 == 0 ? -1 : 0);
        }
        all.then(told).run("tell 7 = NONE", "check 0 = NONE", "count NONE 1 = 0");
        told[179] = "tell 1";
        all.then(told).run("check 0 = 59");
        told[177] = "tell 0";
        told[176] = "tell 1";
        all.then(told).run("check 0 = 58");
    }
}
