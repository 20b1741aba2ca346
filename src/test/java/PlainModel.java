import java.util.ArrayList;
import java.util.HashMap;
import java.util.HashSet;
import java.util.List;
import java.util.Map;
import java.util.Set;
import java.util.TreeSet;

/**
 * The document once more, held in another way: a ring is the list of the calls that changed it, so
 * that undoing cuts that list, an image copies it, and each earlier state is played again.
 */
final class PlainModel {
    private final List<Ring> rings = new ArrayList<>();
    private final List<Long> list = new ArrayList<>();

    private static final class Ring {
        final long[] terms;
        final List<Call> changes = new ArrayList<>();
        int keptDraws;
        State now;

        Ring(long... terms) {
            this.terms = terms;
            now = new State(terms);
        }

        int draws() {
            int n = 0;
            for (Call c : changes) {
                n += c.op.equals("draw") ? 1 : 0;
            }
            return n;
        }

        /** How many changes came ahead of the draw with that number. */
        int aheadOf(int draw) {
            int seen = 0;
            for (int i = 0; i < changes.size(); i++) {
                if (changes.get(i).op.equals("draw") && seen++ == draw) {
                    return i;
                }
            }
            throw new IllegalStateException("no draw " + draw);
        }

        State played(int many) {
            State s = new State(terms);
            for (Call c : changes.subList(0, many)) {
                if (s.change(c.op, c.a) != 0) {
                    throw new IllegalStateException(c.op + " was done once, but not again");
                }
            }
            return s;
        }
    }

    private static final class Call {
        final String op;
        final long[] a;

        Call(String op, long[] a) {
            this.op = op;
            this.a = a;
        }
    }

    long call(String op, long... a) {
        switch (op) {
            case "ring": return newRing(a);
            case "tell": return tellOne(a[0]);
            case "check": return compare(a[0]);
            default: break;
        }
        if (op.equals("count") && a[0] == -1) {
            return a[1] == 0 ? rings.size() : a[1] == 1 ? list.size() : -1;
        }
        Ring r = a[0] < 0 || a[0] >= rings.size() ? null : rings.get((int) a[0]);
        switch (op) {
            case "letter": return r == null ? 0 : r.now.letters.getOrDefault(a[1], 0L);
            case "came": return r == null ? -1 : r.now.cameTo(a[1]);
            case "drawn": return r == null ? -1 : r.now.keptRound(a[1], a[2]);
            case "stops": return r == null ? -1 : r.now.keptStop(a[1], a[2]);
            case "fair": return r == null ? -1 : r.now.wasFair();
            case "look": return r == null ? -1 : r.now.seen(a[1], a[2]);
            case "undo": return r == null ? -1 : undone(r);
            case "image": return r == null || rings.size() == 40 ? -1 : imaged(r);
            case "as": return r == null ? -1 : seenAhead(r, a[1], a[2], a[3]);
            case "count": return r == null ? -1 : counted(r, a[1]);
            default: break;
        }
        if (r == null) {
            return 1;
        }
        long status = r.now.change(op, a);
        if (status == 0) {
            r.changes.add(new Call(op, a));
        }
        return status;
    }

    private long newRing(long[] a) {
        boolean wrong = a[0] < 0 || a[0] > 3 || a[1] < 1 || a[1] > 9999999 || a[2] < 0
                || a[2] > 9999999 || a[3] < 0 || a[3] > 2000000000 || rings.size() == 40;
        if (wrong) {
            return -1;
        }
        rings.add(new Ring(a));
        return rings.size() - 1;
    }

    private long tellOne(long x) {
        if (list.size() == 180) {
            return -1;
        }
        list.add(x);
        return list.size();
    }

    private long compare(long ring) {
        List<Long> told = new ArrayList<>(list);
        list.clear();
        if (ring < 0 || ring >= rings.size()) {
            return -2;
        }
        List<long[]> kept = rings.get((int) ring).now.kept;
        if (told.size() != 3 * kept.size()) {
            return -2;
        }
        for (int i = 0; i < told.size(); i++) {
            if (told.get(i) != kept.get(i / 3)[i % 3]) {
                return i / 3;
            }
        }
        return -1;
    }

    private static long undone(Ring r) {
        int draws = r.draws();
        if (draws == r.keptDraws) {
            return -1;
        }
        int at = r.aheadOf(draws - 1);
        r.changes.subList(at, r.changes.size()).clear();
        r.now = r.played(at);
        return r.now.kept.size();
    }

    private long imaged(Ring r) {
        Ring other = new Ring(r.terms);
        other.changes.addAll(r.changes);
        other.keptDraws = r.draws();
        other.now = other.played(other.changes.size());
        rings.add(other);
        return rings.size() - 1;
    }

    private static long seenAhead(Ring r, long k, long seat, long what) {
        if (k < r.keptDraws || k >= r.draws()) {
            return -1;
        }
        return r.played(r.aheadOf((int) k)).seen(seat, what);
    }

    private static long counted(Ring r, long what) {
        return what == 12 ? r.draws() - r.keptDraws : r.now.counted(what);
    }

    /** A ring as it is, by the document's terms. */
    private static final class State {
        final long kind;
        final long payment;
        final long fine;
        long chest;
        long fines;
        int state;
        final Map<Long, Long> holds = new HashMap<>();
        final Map<Long, Long> letters = new HashMap<>();
        final Map<Long, Long> sureties = new HashMap<>();
        final List<Long> order = new ArrayList<>();
        final List<Long> lots = new ArrayList<>();
        final TreeSet<Long> places = new TreeSet<>();
        final Set<Long> drew = new HashSet<>();
        final Set<Long> stopped = new HashSet<>();
        final Set<Long> spoiled = new HashSet<>();
        final Map<String, Long> sums = new HashMap<>();
        final List<long[]> kept = new ArrayList<>();
        final List<long[]> stops = new ArrayList<>();
        List<Long> row;
        final Set<String> halves = new HashSet<>();
        final Map<Long, Long> bids = new HashMap<>();
        final Set<Long> yes = new HashSet<>();
        long asks = -1;

        State(long[] terms) {
            kind = terms[0];
            payment = terms[1];
            fine = terms[2];
            chest = terms[3];
        }

        long sum(String name, long seat) {
            return sums.getOrDefault(name + seat, 0L);
        }

        void add(String name, long seat, long coins) {
            sums.merge(name + seat, coins, Long::sum);
        }

        long held(long seat) {
            return holds.getOrDefault(seat, 0L);
        }

        long purse() {
            return places.size() * payment;
        }

        boolean roundLeft() {
            return kept.size() < places.size();
        }

        boolean neither(long p) {
            return !stopped.contains(p) && !drew.contains(p);
        }

        boolean full(long p) {
            return !spoiled.contains(p) && sum("debt", p) == 0;
        }

        long change(String op, long[] a) {
            int wants = "seat answers order open".contains(op) ? 0 : 1;
            boolean fits = op.equals("lot") ? state != 2 : state == wants;
            if (!fits) {
                return 2;
            }
            switch (op) {
                case "seat": return sit(a[1], a[2], a[3]);
                case "answers": return answer(a[1], a[2]);
                case "order": return next(a[1]);
                case "lot": return oneLot(a[1]);
                case "open": return opened();
                case "row": return newRow(a[1]);
                case "tear": return torn();
                case "draw": return roundLeft() ? ended() : 8;
                case "close": return closed();
                default: return changePlace(op, a);
            }
        }

        long changePlace(String op, long[] a) {
            long p = a[1];
            if (op.equals("bid") && kind != 2) {
                return 4;
            }
            if ((op.equals("need") || op.equals("yes")) && kind != 3) {
                return 4;
            }
            if (!places.contains(p) || op.equals("yes") && asks < 0) {
                return 3;
            }
            if (op.equals("replace")) {
                return replaced(p, a[2]);
            }
            if (stopped.contains(p)) {
                return 10;
            }
            switch (op) {
                case "deposit":
                    if (held(p) != 4) {
                        return 4;
                    }
                    if (a[2] < 1 || a[2] > 100000000) {
                        return 7;
                    }
                    add("deposit", p, a[2]);
                    return 0;
                case "pay": return paid(p, a[2]);
                case "late":
                    if (sum("debt", p) == 0) {
                        return 8;
                    }
                    chest += sum("debt", p) + fine;
                    fines += fine;
                    add("paid", p, sum("debt", p));
                    sums.remove("debt" + p);
                    return 0;
                case "bid":
                    if (drew.contains(p)) {
                        return 8;
                    }
                    if (a[2] < 0 || a[2] > purse()) {
                        return 7;
                    }
                    bids.put(p, a[2]);
                    return 0;
                case "need":
                    if (drew.contains(p)) {
                        return 8;
                    }
                    asks = p;
                    yes.clear();
                    return 0;
                case "yes": return !drew.contains(p) && yes.add(p) ? 0 : 8;
                case "stop": return stop(p);
                default: throw new IllegalStateException(op);
            }
        }

        long sit(long seat, long what, long x) {
            if (seat < 0 || seat > 59) {
                return 3;
            }
            if (what < 0 || what > 4) {
                return 4;
            }
            holds.put(seat, what);
            letters.put(seat, what == 1 ? x : 0);
            return 0;
        }

        long answer(long surety, long seat) {
            if (held(surety) == 0) {
                return 3;
            }
            if (held(surety) != 4) {
                return 4;
            }
            if (held(seat) < 2 || seat == surety) {
                return 3;
            }
            Long was = sureties.put(seat, surety);
            return was != null && was == surety ? 8 : 0;
        }

        long next(long seat) {
            if (held(seat) < 2) {
                return 3;
            }
            if (kind != 0) {
                return 4;
            }
            if (order.contains(seat)) {
                return 8;
            }
            order.add(seat);
            return 0;
        }

        long oneLot(long x) {
            if (kind != 1) {
                return 4;
            }
            if (x < 0) {
                return 7;
            }
            if (lots.size() == 60) {
                return 9;
            }
            lots.add(x);
            return 0;
        }

        long opened() {
            for (long seat = 0; seat < 60; seat++) {
                if (held(seat) >= 2) {
                    places.add(seat);
                }
            }
            if (places.isEmpty()) {
                return 3;
            }
            sureties.entrySet().removeIf(e -> held(e.getKey()) < 2 || held(e.getValue()) != 4);
            order.retainAll(places);
            for (long seat : places) {
                if (!order.contains(seat)) {
                    order.add(seat);
                }
            }
            state = 1;
            return 0;
        }

        void giveBack(long p) {
            if (row != null && p < row.size()) {
                add("paid", p, -row.get((int) p));
                row.set((int) p, 0L);
                halves.remove(p + "/0");
                halves.remove(p + "/1");
            }
        }

        long newRow(long n) {
            if (!roundLeft()) {
                return 8;
            }
            if (n < 0 || n > 60) {
                return 7;
            }
            for (long p : places) {
                giveBack(p);
            }
            row = new ArrayList<>();
            for (int i = 0; i < n; i++) {
                row.add(0L);
            }
            return 0;
        }

        long torn() {
            if (row == null) {
                return 5;
            }
            for (long p : places) {
                giveBack(p);
            }
            row = null;
            return 0;
        }

        long paid(long p, long half) {
            boolean pair = held(p) == 3;
            if (half == 1 && !pair) {
                return 4;
            }
            if (half != 0 && half != 1) {
                return 7;
            }
            if (row == null) {
                return 5;
            }
            if (p >= row.size()) {
                return 6;
            }
            if (!halves.add(p + "/" + half)) {
                return 8;
            }
            long coins = !pair ? payment : half == 0 ? payment - payment / 2 : payment / 2;
            row.set((int) p, row.get((int) p) + coins);
            add("paid", p, coins);
            return 0;
        }

        long cameTo(long seat) {
            return row == null || seat < 0 || seat >= row.size() ? -1 : row.get((int) seat);
        }

        long ended() {
            long in = 0;
            for (long p : places) {
                if (stopped.contains(p)) {
                    continue;
                }
                long cell = Math.max(0, cameTo(p));
                in += cell;
                if (cell < payment) {
                    in += putIn(p, payment - cell);
                }
            }
            long gave = Math.min(chest, purse() - in);
            long given = in + gave;
            chest -= gave;
            List<Long> able = new ArrayList<>();
            for (long p : places) {
                if (neither(p) && sum("debt", p) == 0) {
                    able.add(p);
                }
            }
            long who = able.isEmpty() ? -1 : chosen(able);
            long bid = 0;
            if (who < 0) {
                chest += given;
            } else {
                bid = handed(who, given);
            }
            kept.add(new long[] {who, given, bid, gave});
            row = null;
            halves.clear();
            bids.clear();
            yes.clear();
            asks = -1;
            return 0;
        }

        long putIn(long p, long lacks) {
            spoiled.add(p);
            Long s = sureties.get(p);
            long put = s == null || stopped.contains(s) ? 0 : Math.min(lacks, sum("deposit", s));
            if (put > 0) {
                add("deposit", s, -put);
            }
            add("claim", p, put);
            add("debt", p, lacks - put);
            return put;
        }

        long chosen(List<Long> able) {
            if (kind == 0) {
                List<Long> left = new ArrayList<>(order);
                left.retainAll(able);
                return left.get(0);
            }
            if (kind == 1) {
                long x = kept.size() < lots.size() ? lots.get(kept.size()) : 0;
                return able.get((int) (x % able.size()));
            }
            if (kind == 2) {
                able.sort((p, q) -> Long.compare(bids.getOrDefault(q, 0L), bids.getOrDefault(p, 0L)));
                return able.get(0);
            }
            long all = places.stream().filter(this::neither).count();
            boolean granted = able.contains(asks) && yes.size() > all - yes.size();
            return granted ? asks : able.get(0);
        }

        long handed(long who, long given) {
            List<Long> others = new ArrayList<>();
            for (long p : places) {
                if (p != who && neither(p)) {
                    others.add(p);
                }
            }
            for (long p : places) {
                if (p != who && !stopped.contains(p) && drew.contains(p)) {
                    others.add(p);
                }
            }
            long bid = others.isEmpty() ? 0 : Math.min(given, bids.getOrDefault(who, 0L));
            for (int i = 0; i < others.size(); i++) {
                long part = bid / others.size() + (i < bid % others.size() ? 1 : 0);
                add("shared", others.get(i), part);
            }
            long left = given - bid;
            long claim = Math.min(left, sum("claim", who));
            if (claim > 0) {
                add("deposit", sureties.get(who), claim);
                add("claim", who, -claim);
            }
            add("drew", who, left - claim);
            drew.add(who);
            return bid;
        }

        long keptRound(long k, long what) {
            boolean there = k >= 0 && k < kept.size() && what >= 0 && what <= 3;
            return there ? kept.get((int) k)[(int) what] : -1;
        }

        long keptStop(long i, long what) {
            boolean there = i >= 0 && i < stops.size() && what >= 0 && what <= 4;
            return there ? stops.get((int) i)[(int) what] : -1;
        }

        long stop(long p) {
            giveBack(p);
            bids.remove(p);
            yes.remove(p);
            asks = asks == p ? -1 : asks;
            long owed = drew.contains(p) ? 0 : Math.max(0, sum("paid", p) - fine);
            long owes = 0;
            if (drew.contains(p)) {
                owes = sum("debt", p) + (places.size() - kept.size()) * payment;
            }
            stops.add(new long[] {p, kept.size(), owed, owes, 0});
            stopped.add(p);
            spoiled.add(p);
            sums.remove("debt" + p);
            add("back", p, sum("deposit", p));
            sums.remove("deposit" + p);
            return 0;
        }

        long replaced(long p, long what) {
            if (!stopped.contains(p)) {
                return 8;
            }
            if (what < 2 || what > 4) {
                return 4;
            }
            stopped.remove(p);
            holds.put(p, what);
            for (String name : new String[] {"claim", "paid", "drew", "shared", "back"}) {
                sums.remove(name + p);
            }
            return 0;
        }

        long closed() {
            if (roundLeft()) {
                return 8;
            }
            List<Long> full = new ArrayList<>();
            for (long p : places) {
                add("back", p, sum("deposit", p));
                sums.remove("deposit" + p);
                if (full(p)) {
                    full.add(p);
                }
            }
            for (long[] s : stops) {
                s[4] = Math.max(0, s[2] - chest);
                chest -= s[2] - s[4];
            }
            for (int i = 0; i < full.size(); i++) {
                add("back", full.get(i), chest / full.size() + (i < chest % full.size() ? 1 : 0));
            }
            chest = full.isEmpty() ? chest : 0;
            state = 2;
            return 0;
        }

        long wasFair() {
            if (kind != 0 || state == 0 || !stops.isEmpty()) {
                return -1;
            }
            boolean less = places.stream()
                    .anyMatch(p -> full(p) && drew.contains(p) && sum("drew", p) != purse());
            return less ? 0 : 1;
        }

        long seen(long seat, long what) {
            if (seat < 0 || seat > 59 || what < 0 || what > 11) {
                return -1;
            }
            if (what == 0) {
                return held(seat);
            }
            if (what == 11) {
                return sureties.getOrDefault(seat, -1L);
            }
            if (!places.contains(seat)) {
                return -1;
            }
            switch ((int) what) {
                case 1: return drew.contains(seat) ? 1 : 0;
                case 2: return stopped.contains(seat) ? 1 : 0;
                case 10: return full(seat) ? 1 : 0;
                default: break;
            }
            String[] names = {"debt", "claim", "deposit", "paid", "drew", "shared", "back"};
            return sum(names[(int) what - 3], seat);
        }

        long counted(long what) {
            long[] all = {kind, payment, fine, chest, state, kept.size(), places.size(),
                row == null ? -1 : row.size(), stops.size(), asks,
                yes.stream().filter(this::neither).count(), lots.size(), -1, fines};
            return what < 0 || what >= all.length ? -1 : all[(int) what];
        }
    }
}
