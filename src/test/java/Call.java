import java.util.ArrayList;
import java.util.Arrays;
import java.util.List;

/** One call of the face: its name and its numbers. */
final class Call {
    /** The statuses by their numbers, and as the tables name them. */
    private static final List<String> STATUSES = Arrays.asList("DONE", "RING", "STATE", "SEAT", "KIND",
            "ROW", "ENDS", "SIZE", "PAID", "FULL", "STOPPED");

    final String op;
    final long[] a;

    Call(String op, long... a) {
        this.op = op;
        this.a = a;
    }

    /**
     * The calls that a text tells: "pay 0 1,3..5 0" is four of them, one for each seat, and
     * "3* draw 0" the same one three times.
     */
    static List<Call> of(String text) {
        String[] words = text.trim().split(" +");
        int first = words[0].endsWith("*") ? 1 : 0;
        int times = first == 0 ? 1 : Integer.parseInt(words[0].substring(0, words[0].length() - 1));
        List<Call> calls = new ArrayList<>();
        for (int i = 0; i < times; i++) {
            addAll(calls, words[first], words, first + 1, new long[words.length - first - 1], 0);
        }
        return calls;
    }

    private static void addAll(List<Call> calls, String op, String[] words, int begin, long[] a, int at) {
        if (at == a.length) {
            calls.add(new Call(op, a.clone()));
            return;
        }
        for (String part : words[begin + at].split(",")) {
            int dots = part.indexOf("..");
            long least = number(dots < 0 ? part : part.substring(0, dots));
            long most = dots < 0 ? least : number(part.substring(dots + 2));
            for (long x = least; ; x++) {
                a[at] = x;
                addAll(calls, op, words, begin, a, at + 1);
                if (x == most) {
                    break;
                }
            }
        }
    }

    static long number(String word) {
        switch (word) {
            case "NONE": return -1;
            case "MIN": return Integer.MIN_VALUE;
            case "MAX": return Integer.MAX_VALUE;
            case "LEAST": return Long.MIN_VALUE;
            case "MOST": return Long.MAX_VALUE;
            default: break;
        }
        int status = STATUSES.indexOf(word);
        return status >= 0 ? status : Long.parseLong(word);
    }

    long on(PurseRing x) {
        int[] i = new int[4];
        for (int k = 0; k < a.length; k++) {
            i[k] = (int) a[k];
        }
        switch (op) {
            case "ring": return x.ring(i[0], i[1], i[2], i[3]);
            case "seat": return x.seat(i[0], i[1], i[2], i[3]);
            case "letter": return x.letter(i[0], i[1]);
            case "answers": return x.answers(i[0], i[1], i[2]);
            case "order": return x.order(i[0], i[1]);
            case "lot": return x.lot(i[0], i[1]);
            case "open": return x.open(i[0]);
            case "deposit": return x.deposit(i[0], i[1], i[2]);
            case "row": return x.row(i[0], i[1]);
            case "tear": return x.tear(i[0]);
            case "pay": return x.pay(i[0], i[1], i[2]);
            case "came": return x.came(i[0], i[1]);
            case "late": return x.late(i[0], i[1]);
            case "bid": return x.bid(i[0], i[1], a[2]);
            case "need": return x.need(i[0], i[1]);
            case "yes": return x.yes(i[0], i[1]);
            case "draw": return x.draw(i[0]);
            case "drawn": return x.drawn(i[0], i[1], i[2]);
            case "stop": return x.stop(i[0], i[1]);
            case "replace": return x.replace(i[0], i[1], i[2]);
            case "stops": return x.stops(i[0], i[1], i[2]);
            case "close": return x.close(i[0]);
            case "fair": return x.fair(i[0]);
            case "undo": return x.undo(i[0]);
            case "image": return x.image(i[0]);
            case "tell": return x.tell(a[0]);
            case "check": return x.check(i[0]);
            case "look": return x.look(i[0], i[1], i[2]);
            case "as": return x.as(i[0], i[1], i[2], i[3]);
            case "count": return x.count(i[0], i[1]);
            default: throw new IllegalStateException(op);
        }
    }

    @Override
    public String toString() {
        StringBuilder text = new StringBuilder(op).append('(');
        for (int k = 0; k < a.length; k++) {
            text.append(k == 0 ? "" : ", ").append(a[k]);
        }
        return text.append(')').toString();
    }
}
