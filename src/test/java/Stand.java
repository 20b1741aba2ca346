import java.util.ArrayList;
import java.util.List;

/**
 * How far an object has come, as the calls that made it. Each question is put to an object of its
 * own, made by these calls anew, so that a refused call can be held against the run without it, and
 * no object is asked more than the 512 calls that are promised.
 */
final class Stand {
    private static final int MOST_CALLS = 512;

    /** What can be seen without a change. */
    private static final List<Call> SEEN = all("count NONE 0..1", "count 0,1 0..13", "fair 0,1",
            "look 0,1 0..59 0..11", "came 0,1 0..59", "letter 0,1 0..59", "drawn 0,1 0..60 0..3",
            "stops 0,1 0..8 0..4", "as 0,1 0..3,58,59 0..6,59 0..11");

    /** Ways to go on by which the told order, bids, yeses, halves and the list come to light. */
    private static final List<List<Call>> WAYS = List.of(
            all("order 0 0..6,59", "answers 0 0..3 0..6,59"),
            all("open 0", "pay 0 0..6,59 0,1", "draw 0", "drawn 0 0 0..3", "row 0 60",
                    "pay 0 0..6,59 0,1", "draw 0", "row 0 60", "pay 0 0..6,59 0,1", "draw 0",
                    "row 0 60", "pay 0 0..6,59 0,1", "draw 0", "close 0", "drawn 0 0..8 0..3",
                    "look 0 0..6,59 1..11"),
            all("open 0", "late 0 0..6,59", "row 0 60", "pay 0 0..6,59 0,1", "draw 0",
                    "drawn 0 0..8 0..3", "look 0 0..6,59 1..11"),
            all("yes 0 0..6,59", "tear 0", "stop 0 0..6,59", "stops 0 0..8 0..4"),
            all("undo 0", "count 0 0..13", "look 0 0..6,59 0..11", "undo 0", "count 0 0..13",
                    "look 0 0..6,59 0..11", "undo 0", "count 0 0..13"),
            all("tell 1", "check 0"), all("check 0"), all("ring 0 1 0 0", "image 0", "image 1"));

    /** What a ring and its image must answer alike. */
    private static final List<String> OF_A_RING = List.of("order", "answers", "open", "row", "tear", "pay", "late",
            "yes", "stop", "stops", "draw", "drawn", "close", "look", "count");

    private final Due due;
    private final List<Call> made = new ArrayList<>();
    private List<Long> before;

    /** A stand comes from calls that are all done. */
    Stand(Due due, String... calls) {
        this.due = due;
        made.addAll(all(calls));
        PurseRing x = new PurseRing();
        for (Call c : made) {
            long got = c.on(x);
            if (!isDone(c, got)) {
                due.is(c + " on the way to a stand", got, 0);
            }
        }
    }

    private static boolean isDone(Call c, long got) {
        switch (c.op) {
            case "ring": case "image": case "tell": case "undo": return got >= 0;
            case "check": return true;
            default: return got == 0;
        }
    }

    Stand then(String... more) {
        String[] calls = new String[made.size() + more.length];
        for (int i = 0; i < made.size(); i++) {
            calls[i] = text(made.get(i));
        }
        System.arraycopy(more, 0, calls, made.size(), more.length);
        return new Stand(due, calls);
    }

    private static String text(Call c) {
        StringBuilder words = new StringBuilder(c.op);
        for (long x : c.a) {
            words.append(' ').append(x);
        }
        return words.toString();
    }

    /** "call = answer" for each row, one behind the other on one object. */
    Stand run(String... rows) {
        PurseRing x = object();
        int calls = made.size();
        for (String row : rows) {
            for (Call c : Call.of(left(row))) {
                due.is(told(c), c.on(x), right(row));
                calls++;
            }
        }
        if (calls > MOST_CALLS) {
            due.is("calls of a run", calls, MOST_CALLS);
        }
        return this;
    }

    /** The same, but each call on an object of its own. */
    Stand answers(String... rows) {
        for (String row : rows) {
            for (Call c : Call.of(left(row))) {
                due.is(told(c), c.on(object()), right(row));
            }
        }
        return this;
    }

    /** The same, and behind the call all is as it is without it. */
    Stand refuses(String... rows) {
        if (before == null) {
            before = shown(null);
        }
        for (String row : rows) {
            for (Call c : Call.of(left(row))) {
                due.is(told(c), c.on(object()), right(row));
                due.is("changes by the refused " + told(c), changes(shown(c)), 0);
            }
        }
        return this;
    }

    /** All shows as on another stand. */
    Stand sameAs(Stand other) {
        before = shown(null);
        due.is("what shows otherwise behind " + other.made.size() + " calls", changes(other.shown(null)), 0);
        return this;
    }

    /** What is asked of ring 0 is answered by its image just so, but for what can be undone. */
    Stand imagesItself() {
        List<Call> asked = new ArrayList<>();
        for (Call c : SEEN) {
            boolean ofUndoing = c.op.equals("as") || c.op.equals("count") && c.a[1] == 12;
            if (c.a[0] == 0 && !ofUndoing) {
                asked.add(c);
            }
        }
        int room = MOST_CALLS - made.size() - 1;
        for (int from = 0; from < asked.size(); from += room) {
            imagesItself(asked.subList(from, Math.min(asked.size(), from + room)));
        }
        for (List<Call> way : WAYS) {
            if (OF_A_RING.containsAll(names(way))) {
                imagesItself(way.subList(0, Math.min(way.size(), room)));
            }
        }
        return this;
    }

    private void imagesItself(List<Call> questions) {
        List<Call> ofTheImage = new ArrayList<>();
        for (Call c : questions) {
            long[] a = c.a.clone();
            a[0] = 1;
            ofTheImage.add(new Call(c.op, a));
        }
        Call image = new Call("image", 0);
        List<Long> first = new ArrayList<>();
        List<Long> second = new ArrayList<>();
        ask(image, questions, first);
        ask(image, ofTheImage, second);
        for (int i = 0; i < first.size(); i++) {
            due.is("the image's " + told(questions.get(i)), second.get(i), first.get(i));
        }
    }

    private static List<String> names(List<Call> calls) {
        List<String> names = new ArrayList<>();
        for (Call c : calls) {
            names.add(c.op);
        }
        return names;
    }

    private String told(Call c) {
        return c + " behind " + made.size() + " calls";
    }

    private static String left(String row) {
        return row.substring(0, row.indexOf('='));
    }

    private static long right(String row) {
        return Call.number(row.substring(row.indexOf('=') + 1).trim());
    }

    private PurseRing object() {
        PurseRing x = new PurseRing();
        for (Call c : made) {
            c.on(x);
        }
        return x;
    }

    private long changes(List<Long> after) {
        int n = 0;
        for (int i = 0; i < before.size(); i++) {
            n += before.get(i).equals(after.get(i)) ? 0 : 1;
        }
        return n;
    }

    /** All that shows, behind one call more or, with null, without it. */
    private List<Long> shown(Call more) {
        List<Long> answers = new ArrayList<>();
        int room = MOST_CALLS - made.size() - 1;
        for (int from = 0; from < SEEN.size(); from += room) {
            ask(more, SEEN.subList(from, Math.min(SEEN.size(), from + room)), answers);
        }
        for (List<Call> way : WAYS) {
            ask(more, way.subList(0, Math.min(way.size(), room)), answers);
        }
        return answers;
    }

    private void ask(Call more, List<Call> questions, List<Long> answers) {
        PurseRing x = object();
        if (more != null) {
            more.on(x);
        }
        for (Call c : questions) {
            answers.add(c.on(x));
        }
    }

    private static List<Call> all(String... texts) {
        List<Call> calls = new ArrayList<>();
        for (String text : texts) {
            calls.addAll(Call.of(text));
        }
        return calls;
    }
}
