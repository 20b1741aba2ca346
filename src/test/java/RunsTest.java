import java.lang.reflect.Method;
import java.lang.reflect.Modifier;
import java.util.ArrayList;
import java.util.Arrays;
import java.util.Comparator;
import java.util.List;
import java.util.Random;

/** Many runs of up to 512 calls, each call answered by PurseRing and by the plain model. */
final class RunsTest {
    private static final int RUNS = 4000;
    /** Every so many runs one takes any number for any argument. */
    private static final int WILD = 5;
    private static final int CALLS = 512;
    private static final int[] SUMS = {1, 1, 2, 3, 7, 10, 10, 50, 9999999};
    private static final long[] ODD = {-1, 0, 1, 2, 3, 4, 5, 59, 60, 61, -2, Integer.MAX_VALUE,
        Integer.MIN_VALUE};

    private static final long[] ODD_LONGS = {-1, 0, 60, 1L << 32, -(1L << 32), Long.MAX_VALUE, Long.MIN_VALUE};
    /** By name, so that a seed gives the same run on every machine. */
    private static final List<Method> FACE = face();

    private final Random random;
    private final PurseRing program = new PurseRing();
    private final PlainModel model = new PlainModel();
    private final List<String> calls = new ArrayList<>();
    private final int seats;
    private final boolean wild;
    private long rings;
    private int changes;
    private boolean wrong;

    private RunsTest(long seed) {
        random = new Random(seed);
        wild = seed % WILD == 0;
        seats = 1 + random.nextInt(random.nextInt(10) == 0 ? 60 : 6);
    }

    public static void main(String[] args) {
        int failed = 0;
        for (int seed = 0; seed < RUNS && failed < 3; seed++) {
            RunsTest run = new RunsTest(seed);
            run.go();
            if (run.wrong) {
                failed++;
                System.out.println("run " + seed + ":");
                run.calls.forEach(System.out::println);
            }
        }
        System.out.println("RunsTest: " + RUNS + " runs, " + failed + " not as due");
        if (failed != 0) {
            System.exit(1);
        }
    }

    private void go() {
        make();
        while (changes < CALLS && !wrong) {
            changes++;
            if (wild && random.nextBoolean()) {
                anything();
            } else if (random.nextInt(4) == 0) {
                see();
            } else {
                change();
            }
        }
        for (int r = 0; r < rings && !wrong; r++) {
            seeAll(r);
        }
    }

    private void make() {
        long ring = call("ring", random.nextInt(4), sum(), pick(0, 0, 1, 3, 40), pick(0, 0, 5, 90, 2000000000));
        if (ring < 0) {
            return;
        }
        rings = ring + 1;
        for (int i = 0; i < seats; i++) {
            call("seat", ring, i, random.nextInt(8) == 0 ? random.nextInt(5) : 2 + random.nextInt(3), i);
        }
        for (int i = random.nextInt(2 * seats + 1); i > 0; i--) {
            switch (random.nextInt(6)) {
                case 0: call("order", ring, seat()); break;
                case 1: call("lot", ring, random.nextInt() >> random.nextInt(31)); break;
                case 2: call("seat", ring, seat(), random.nextInt(5), 9); break;
                default: call("answers", ring, seat(), seat()); break;
            }
        }
        if (random.nextInt(10) > 0) {
            call("open", ring);
        }
    }

    /** Any call of the face, each argument ordinary or odd by turns of its own. */
    private void anything() {
        Method m = FACE.get(random.nextInt(FACE.size()));
        long[] a = new long[m.getParameterCount()];
        for (int i = 0; i < a.length; i++) {
            boolean isLong = m.getParameterTypes()[i] == long.class;
            a[i] = random.nextInt(3) > 0 ? random.nextInt(4) : isLong ? pick(ODD_LONGS) : pick(ODD);
        }
        long got = call(m.getName(), a);
        if (m.getName().equals("ring") || m.getName().equals("image")) {
            rings = Math.max(rings, got + 1);
        }
    }

    private static List<Method> face() {
        List<Method> face = new ArrayList<>();
        for (Method m : PurseRing.class.getDeclaredMethods()) {
            if (Modifier.isPublic(m.getModifiers())) {
                face.add(m);
            }
        }
        face.sort(Comparator.comparing(Method::getName));
        return face;
    }

    private void change() {
        long r = ring();
        switch (random.nextInt(32)) {
            case 0: call("seat", r, seat(), odd(2), 3); break;
            case 1: call("answers", r, seat(), seat()); break;
            case 2: call("order", r, seat()); break;
            case 3: call("lot", r, random.nextInt()); break;
            case 4: call("open", r); break;
            case 5: case 6: call("deposit", r, seat(), random.nextInt(9) == 0 ? odd(7) : sum()); break;
            case 7: call("row", r, random.nextInt(3) == 0 ? odd(4) : seats); break;
            case 8: call("tear", r); break;
            case 9: case 10: call("pay", r, seat(), odd(random.nextInt(2))); break;
            case 11: case 12: call("late", r, seat()); break;
            case 13: case 14: call("bid", r, seat(), bid()); break;
            case 15: call("need", r, seat()); break;
            case 16: case 17: call("yes", r, seat()); break;
            case 18: call("draw", r); break;
            case 19: stop(r); break;
            case 20: case 21: call("replace", r, seat(), odd(2 + random.nextInt(3))); break;
            case 22: call("close", r); break;
            case 23: call("undo", r); break;
            case 24: image(r); break;
            case 25: tellAndCheck(r); break;
            default: round(r); break;
        }
    }

    /** Most pay, then it is drawn: random calls alone would rarely come so far. */
    private void round(long r) {
        call("row", r, 60);
        for (int i = 0; i < seats; i++) {
            if (random.nextInt(6) > 0) {
                call("pay", r, i, 0);
                call("pay", r, i, 1);
            }
        }
        long asks = seat();
        call("need", r, asks);
        for (int i = random.nextInt(seats + 1); i > 0; i--) {
            call("yes", r, seat());
            call("bid", r, seat(), bid());
        }
        call("draw", r);
        if (random.nextInt(3) == 0) {
            seePlaces(r);
        }
    }

    private void seePlaces(long r) {
        for (int seat = 0; seat < seats; seat++) {
            for (int what = 0; what <= 11; what++) {
                call("look", r, seat, what);
            }
        }
    }

    private void seeAll(long r) {
        seePlaces(r);
        for (int what = 0; what <= 13; what++) {
            call("count", r, what);
        }
        for (int i = 0; i < seats; i++) {
            for (int what = 0; what <= 4; what++) {
                call("drawn", r, i, what);
                call("stops", r, i, what);
            }
            call("came", r, i);
            call("as", r, i, random.nextInt(seats), random.nextInt(12));
        }
    }

    /** A place that is filled again at once shows what did not go with its member. */
    private void stop(long r) {
        long seat = seat();
        call("stop", r, seat);
        if (random.nextBoolean()) {
            call("replace", r, seat, 2 + random.nextInt(3));
            call("pay", r, seat, 0);
            seePlaces(r);
            call("count", r, 10);
        }
    }

    private void image(long r) {
        if (random.nextInt(4) == 0) {
            make();
        } else {
            rings = Math.max(rings, call("image", r) + 1);
        }
    }

    private void tellAndCheck(long r) {
        long rounds = call("count", r, 5);
        for (long k = 0; k < rounds; k++) {
            for (long what = 0; what < 3; what++) {
                call("tell", model.call("drawn", r, k, what) + (random.nextInt(20) == 0 ? 1 : 0));
            }
        }
        if (random.nextInt(5) == 0) {
            call("tell", random.nextLong());
        }
        call("check", r);
    }

    private void see() {
        long r = ring();
        long k = random.nextInt(4) == 0 ? odd(0) : random.nextInt(seats);
        switch (random.nextInt(9)) {
            case 0: call("letter", r, seat()); break;
            case 1: call("came", r, seat()); break;
            case 2: call("drawn", r, k, random.nextInt(6) - 1); break;
            case 3: call("stops", r, k, random.nextInt(7) - 1); break;
            case 4: call("fair", r); break;
            case 5: case 6: call("look", r, seat(), random.nextInt(14) - 1); break;
            case 7: call("as", r, k, seat(), random.nextInt(14) - 1); break;
            default: call("count", r, random.nextInt(16) - 1); break;
        }
    }

    private long ring() {
        return random.nextInt(30) == 0 ? odd(0) : rings == 0 ? 0 : random.nextInt((int) rings);
    }

    private long seat() {
        return random.nextInt(15) == 0 ? odd(0) : random.nextInt(seats);
    }

    private long sum() {
        return SUMS[random.nextInt(SUMS.length)];
    }

    private long bid() {
        return random.nextInt(20) == 0 ? random.nextLong() : random.nextInt(40);
    }

    private long pick(long... of) {
        return of[random.nextInt(of.length)];
    }

    private long odd(long ordinary) {
        return random.nextInt(5) == 0 ? pick(ODD) : ordinary;
    }

    private long call(String op, long... a) {
        long want = model.call(op, a);
        long got = new Call(op, a).on(program);
        calls.add("  " + op + Arrays.toString(a) + " answered " + got
                + (got == want ? "" : ", due is " + want));
        wrong |= got != want;
        return got;
    }
}
