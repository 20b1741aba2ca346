/**
 * Rings of neighbours who pay the same into one purse each round, which one of them draws. The
 * words in capitals are those of the document, ../shared/DOC.md.
 */
public final class PurseRing {
    public static final int NONE = -1;

    private static final int MOST_RINGS = 40;
    private static final int SEATS = 60;
    private static final int MOST_LOTS = 60;
    private static final int MOST_LISTED = 180;
    /** An object is used for 512 calls, and each call stops one PLACE at most. */
    private static final int MOST_STOPS = 512;

    private static final int MOST_PAYMENT = 9999999;
    private static final int MOST_FINE = 9999999;
    private static final int MOST_CHEST = 2000000000;
    private static final int MOST_DEPOSIT = 100000000;

    private static final int BY_ORDER = 0;
    private static final int BY_LOT = 1;
    private static final int BY_BID = 2;
    private static final int BY_NEED = 3;

    private static final int BEING_MADE = 0;
    private static final int OPEN = 1;
    private static final int CLOSED = 2;

    private static final int NOTHING = 0;
    private static final int LETTER = 1;
    private static final int PAYER = 2;
    private static final int PAIR = 3;
    private static final int SURETY = 4;

    private static final int DONE = 0;
    private static final int NO_RING = 1;
    private static final int OTHER_STATE = 2;
    private static final int NO_SEAT = 3;
    private static final int OTHER_KIND = 4;
    private static final int NO_ROW = 5;
    private static final int ROW_ENDS = 6;
    private static final int WRONG_SIZE = 7;
    private static final int PAID = 8;
    private static final int NO_ROOM = 9;
    private static final int HAS_STOPPED = 10;

    private static final int NOT_COMPARED = -2;

    /** What is kept of a ROUND: who drew, GIVEN, the BID, what the CHEST gave. */
    private static final int KEPT = 4;
    /** How many of these, from the first on, the LIST tells. */
    private static final int LISTED = 3;

    private final Ring[] rings;
    private int ringCount;
    private final long[] list;
    private int listCount;

    public PurseRing() {
        rings = new Ring[MOST_RINGS];
        list = new long[MOST_LISTED];
    }

    public int ring(int kind, int payment, int fine, int chest) {
        boolean fits = within(kind, BY_ORDER, BY_NEED) && within(payment, 1, MOST_PAYMENT)
                && within(fine, 0, MOST_FINE) && within(chest, 0, MOST_CHEST);
        if (!fits || ringCount >= MOST_RINGS) {
            return NONE;
        }
        return added(new Ring(kind, payment, fine, chest));
    }

    public int seat(int ring, int seat, int what, int x) {
        Ring r = found(ring);
        return r == null ? NO_RING : r.seatOther(seat, what, x);
    }

    public int letter(int ring, int seat) {
        Ring r = found(ring);
        return r == null ? 0 : r.now.letterOn(seat);
    }

    public int answers(int ring, int surety, int seat) {
        Ring r = found(ring);
        return r == null ? NO_RING : r.answerFor(surety, seat);
    }

    public int order(int ring, int seat) {
        Ring r = found(ring);
        return r == null ? NO_RING : r.tellNext(seat);
    }

    public int lot(int ring, int x) {
        Ring r = found(ring);
        return r == null ? NO_RING : r.tellLot(x);
    }

    public int open(int ring) {
        Ring r = found(ring);
        return r == null ? NO_RING : r.begin();
    }

    public int deposit(int ring, int seat, int sum) {
        Ring r = found(ring);
        return r == null ? NO_RING : r.addDeposit(seat, sum);
    }

    public int row(int ring, int n) {
        Ring r = found(ring);
        return r == null ? NO_RING : r.layRow(n);
    }

    public int tear(int ring) {
        Ring r = found(ring);
        return r == null ? NO_RING : r.tearRow();
    }

    public int pay(int ring, int seat, int half) {
        Ring r = found(ring);
        return r == null ? NO_RING : r.payIn(seat, half);
    }

    public int came(int ring, int seat) {
        Ring r = found(ring);
        return r == null ? NONE : r.now.cellOf(seat);
    }

    public int late(int ring, int seat) {
        Ring r = found(ring);
        return r == null ? NO_RING : r.payDebt(seat);
    }

    public int bid(int ring, int seat, long b) {
        Ring r = found(ring);
        return r == null ? NO_RING : r.takeBid(seat, b);
    }

    public int need(int ring, int seat) {
        Ring r = found(ring);
        return r == null ? NO_RING : r.ask(seat);
    }

    public int yes(int ring, int seat) {
        Ring r = found(ring);
        return r == null ? NO_RING : r.sayYes(seat);
    }

    public int draw(int ring) {
        Ring r = found(ring);
        return r == null ? NO_RING : r.endRound();
    }

    public long drawn(int ring, int k, int what) {
        Ring r = found(ring);
        return r == null ? NONE : r.keptOf(k, what);
    }

    public int stop(int ring, int seat) {
        Ring r = found(ring);
        return r == null ? NO_RING : r.stopPlace(seat);
    }

    public int replace(int ring, int seat, int what) {
        Ring r = found(ring);
        return r == null ? NO_RING : r.replacePlace(seat, what);
    }

    public long stops(int ring, int i, int what) {
        Ring r = found(ring);
        return r == null ? NONE : r.stopOf(i, what);
    }

    public int close(int ring) {
        Ring r = found(ring);
        return r == null ? NO_RING : r.finish();
    }

    public int fair(int ring) {
        Ring r = found(ring);
        return r == null ? NONE : r.fairness();
    }

    public int undo(int ring) {
        Ring r = found(ring);
        return r == null ? NONE : r.undoRound();
    }

    public int image(int ring) {
        Ring r = found(ring);
        if (r == null || ringCount >= MOST_RINGS) {
            return NONE;
        }
        return added(r.imageOfThis());
    }

    public int tell(long x) {
        if (listCount >= MOST_LISTED) {
            return NONE;
        }
        list[listCount] = x;
        listCount++;
        return listCount;
    }

    public int check(int ring) {
        int told = listCount;
        listCount = 0;
        Ring r = found(ring);
        if (r == null || told != LISTED * r.now.round) {
            return NOT_COMPARED;
        }
        return r.firstOtherwise(list);
    }

    public long look(int ring, int seat, int what) {
        Ring r = found(ring);
        return r == null ? NONE : r.now.valueOf(seat, what);
    }

    public long as(int ring, int k, int seat, int what) {
        Ring r = found(ring);
        if (r == null) {
            return NONE;
        }
        Book then = r.bookAhead(k);
        return then == null ? NONE : then.valueOf(seat, what);
    }

    public long count(int ring, int what) {
        if (ring == NONE) {
            return what == 0 ? ringCount : what == 1 ? listCount : NONE;
        }
        Ring r = found(ring);
        return r == null ? NONE : r.countOf(what);
    }

    private Ring found(int ring) {
        return ring >= 0 && ring < ringCount ? rings[ring] : null;
    }

    private int added(Ring r) {
        if (ringCount >= MOST_RINGS) {
            return NONE;
        }
        rings[ringCount] = r;
        ringCount++;
        return ringCount - 1;
    }

    private static boolean within(long x, long least, long most) {
        return x >= least && x <= most;
    }

    /** A SEAT: what it holds and, behind open(), all that it has as a PLACE. */
    private static final class Place {
        int holds;
        int letter;
        int surety;
        boolean drew;
        boolean stopped;
        /** Once it is false it stays so: who has DEBT was LATE, who replaces came behind open(). */
        boolean full;
        long debt;
        long claim;
        long deposit;
        long paid;
        long drewCoins;
        long shared;
        long back;

        // What holds for one ROUND alone.
        int cell;
        boolean firstPaid;
        boolean secondPaid;
        long offer;
        boolean saidYes;

        Place() {
            surety = NONE;
        }

        void copyFrom(Place other) {
            holds = other.holds;
            letter = other.letter;
            surety = other.surety;
            drew = other.drew;
            stopped = other.stopped;
            full = other.full;
            debt = other.debt;
            claim = other.claim;
            deposit = other.deposit;
            paid = other.paid;
            drewCoins = other.drewCoins;
            shared = other.shared;
            back = other.back;
            cell = other.cell;
            firstPaid = other.firstPaid;
            secondPaid = other.secondPaid;
            offer = other.offer;
            saidYes = other.saidYes;
        }

        boolean isMember() {
            return holds >= PAYER;
        }

        boolean isGoing() {
            return isMember() && !stopped;
        }

        boolean isNeither() {
            return isGoing() && !drew;
        }

        boolean isAble() {
            return isNeither() && debt == 0;
        }

        void emptyCell() {
            cell = 0;
            firstPaid = false;
            secondPaid = false;
        }

        void takeCellBack() {
            paid -= cell;
            emptyCell();
        }

        void takeDepositBack() {
            back += deposit;
            deposit = 0;
        }

        long valueOf(int what) {
            switch (what) {
                case 1: return drew ? 1 : 0;
                case 2: return stopped ? 1 : 0;
                case 3: return debt;
                case 4: return claim;
                case 5: return deposit;
                case 6: return paid;
                case 7: return drewCoins;
                case 8: return shared;
                case 9: return back;
                case 10: return full ? 1 : 0;
                default: return NONE;
            }
        }
    }

    /** All of a RING that changes behind open(): what a draw() keeps and undo() brings back. */
    private static final class Book {
        final Place[] seats;
        int state;
        int round;
        int places;
        /** The ROW's cells, NONE without a ROW. */
        int cells;
        int asks;
        int lotCount;
        int stopCount;
        long chest;
        long fines;

        Book() {
            seats = new Place[SEATS];
            for (int i = 0; i < SEATS; i++) {
                seats[i] = new Place();
            }
            cells = NONE;
            asks = NONE;
        }

        void copyFrom(Book other) {
            for (int i = 0; i < SEATS; i++) {
                seats[i].copyFrom(other.seats[i]);
            }
            state = other.state;
            round = other.round;
            places = other.places;
            cells = other.cells;
            asks = other.asks;
            lotCount = other.lotCount;
            stopCount = other.stopCount;
            chest = other.chest;
            fines = other.fines;
        }

        Place seatAt(int seat) {
            return seat >= 0 && seat < SEATS ? seats[seat] : null;
        }

        Place memberAt(int seat) {
            Place p = seatAt(seat);
            return p != null && p.isMember() ? p : null;
        }

        Place placeAt(int seat) {
            return state == BEING_MADE ? null : memberAt(seat);
        }

        boolean roundIsLeft() {
            return round < places && round < SEATS;
        }

        int countMembers() {
            int n = 0;
            for (Place p : seats) {
                n += p.isMember() ? 1 : 0;
            }
            return n;
        }

        int countNeither() {
            int n = 0;
            for (Place p : seats) {
                n += p.isNeither() ? 1 : 0;
            }
            return n;
        }

        int countYes() {
            int n = 0;
            for (Place p : seats) {
                n += p.isNeither() && p.saidYes ? 1 : 0;
            }
            return n;
        }

        int countAble() {
            int n = 0;
            for (Place p : seats) {
                n += p.isAble() ? 1 : 0;
            }
            return n;
        }

        /** The SEAT of the one with that number among those that are ABLE; NONE without. */
        int ableNumber(long number) {
            long before = 0;
            for (int i = 0; i < SEATS; i++) {
                if (seats[i].isAble()) {
                    if (before == number) {
                        return i;
                    }
                    before++;
                }
            }
            return NONE;
        }

        int letterOn(int seat) {
            Place p = seatAt(seat);
            return p == null ? 0 : p.letter;
        }

        int cellOf(int seat) {
            Place p = seatAt(seat);
            return p == null || seat >= cells ? NONE : p.cell;
        }

        long valueOf(int seat, int what) {
            Place p = seatAt(seat);
            if (p == null) {
                return NONE;
            }
            if (what == 0) {
                return p.holds;
            }
            if (what == 11) {
                return p.surety;
            }
            return placeAt(seat) == null ? NONE : p.valueOf(what);
        }

        void forgetYes() {
            for (Place p : seats) {
                p.saidYes = false;
            }
        }

        /** What was told of SURETIES ahead of open() holds only between those that sit there now. */
        void dropEmptySureties() {
            for (Place p : seats) {
                Place s = seatAt(p.surety);
                if (!p.isMember() || s == null || s.holds != SURETY) {
                    p.surety = NONE;
                }
            }
        }

        void replaceRow(int n) {
            for (Place p : seats) {
                p.takeCellBack();
            }
            cells = n;
        }

        /** The coins of the cells are spent, so that nothing comes back here. */
        void forgetRound() {
            for (Place p : seats) {
                p.emptyCell();
                p.offer = 0;
                p.saidYes = false;
            }
            cells = NONE;
            asks = NONE;
        }
    }

    /** One that STOPPED. */
    private static final class Stop {
        int seat;
        int round;
        long owed;
        long owes;
        /** Counts only while the RING is closed, so that undo() needn't clear it. */
        long unpaid;

        void copyFrom(Stop other) {
            seat = other.seat;
            round = other.round;
            owed = other.owed;
            owes = other.owes;
            unpaid = other.unpaid;
        }
    }

    /**
     * A RING. LOTS, ROUNDS and STOPS only ever grow at their end, so the book keeps no more than
     * how many there are.
     */
    private static final class Ring {
        final int kind;
        final long payment;
        final long fine;
        /** The told order. */
        final int[] told;
        int toldCount;
        final int[] lots;
        final long[] kept;
        final Stop[] stopped;
        final Book now;
        /** The book as each ROUND's draw() found it. */
        final Book[] ahead;
        /** The first ROUND that this RING ended itself: what an image took over can't be undone. */
        int firstOwn;

        Ring(int kind, long payment, long fine, long chest) {
            this.kind = kind;
            this.payment = payment;
            this.fine = fine;
            told = new int[SEATS];
            lots = new int[MOST_LOTS];
            kept = new long[SEATS * KEPT];
            stopped = new Stop[MOST_STOPS];
            now = new Book();
            now.chest = chest;
            ahead = new Book[SEATS];
        }

        Ring imageOfThis() {
            Ring other = new Ring(kind, payment, fine, 0);
            System.arraycopy(told, 0, other.told, 0, SEATS);
            other.toldCount = toldCount;
            System.arraycopy(lots, 0, other.lots, 0, MOST_LOTS);
            System.arraycopy(kept, 0, other.kept, 0, SEATS * KEPT);
            for (int i = 0; i < now.stopCount && i < MOST_STOPS; i++) {
                if (stopped[i] != null) {
                    other.stopped[i] = new Stop();
                    other.stopped[i].copyFrom(stopped[i]);
                }
            }
            other.now.copyFrom(now);
            other.firstOwn = now.round;
            return other;
        }

        long purse() {
            return payment * now.places;
        }

        int seatOther(int seat, int what, int x) {
            if (now.state != BEING_MADE) {
                return OTHER_STATE;
            }
            Place p = now.seatAt(seat);
            if (p == null) {
                return NO_SEAT;
            }
            if (!within(what, NOTHING, SURETY)) {
                return OTHER_KIND;
            }
            p.holds = what;
            p.letter = what == LETTER ? x : 0;
            return DONE;
        }

        int answerFor(int surety, int seat) {
            if (now.state != BEING_MADE) {
                return OTHER_STATE;
            }
            Place s = now.seatAt(surety);
            if (s == null || s.holds == NOTHING) {
                return NO_SEAT;
            }
            if (s.holds != SURETY) {
                return OTHER_KIND;
            }
            Place p = now.memberAt(seat);
            if (p == null || seat == surety) {
                return NO_SEAT;
            }
            if (p.surety == surety) {
                return PAID;
            }
            p.surety = surety;
            return DONE;
        }

        int tellNext(int seat) {
            if (now.state != BEING_MADE) {
                return OTHER_STATE;
            }
            if (now.memberAt(seat) == null) {
                return NO_SEAT;
            }
            if (kind != BY_ORDER) {
                return OTHER_KIND;
            }
            if (isTold(seat) || toldCount >= SEATS) {
                return PAID;
            }
            told[toldCount] = seat;
            toldCount++;
            return DONE;
        }

        boolean isTold(int seat) {
            for (int i = 0; i < toldCount && i < SEATS; i++) {
                if (told[i] == seat) {
                    return true;
                }
            }
            return false;
        }

        int tellLot(int x) {
            if (now.state == CLOSED) {
                return OTHER_STATE;
            }
            if (kind != BY_LOT) {
                return OTHER_KIND;
            }
            if (x < 0) {
                return WRONG_SIZE;
            }
            if (now.lotCount >= MOST_LOTS) {
                return NO_ROOM;
            }
            lots[now.lotCount] = x;
            now.lotCount++;
            return DONE;
        }

        int begin() {
            if (now.state != BEING_MADE) {
                return OTHER_STATE;
            }
            int members = now.countMembers();
            if (members == 0) {
                return NO_SEAT;
            }
            now.dropEmptySureties();
            for (Place p : now.seats) {
                p.full = p.isMember();
            }
            now.places = members;
            now.state = OPEN;
            return DONE;
        }

        int addDeposit(int seat, int sum) {
            if (now.state != OPEN) {
                return OTHER_STATE;
            }
            Place p = now.placeAt(seat);
            if (p == null) {
                return NO_SEAT;
            }
            if (p.stopped) {
                return HAS_STOPPED;
            }
            if (p.holds != SURETY) {
                return OTHER_KIND;
            }
            if (!within(sum, 1, MOST_DEPOSIT)) {
                return WRONG_SIZE;
            }
            p.deposit += sum;
            return DONE;
        }

        int layRow(int n) {
            if (now.state != OPEN) {
                return OTHER_STATE;
            }
            if (!now.roundIsLeft()) {
                return PAID;
            }
            if (!within(n, 0, SEATS)) {
                return WRONG_SIZE;
            }
            now.replaceRow(n);
            return DONE;
        }

        int tearRow() {
            if (now.state != OPEN) {
                return OTHER_STATE;
            }
            if (now.cells == NONE) {
                return NO_ROW;
            }
            now.replaceRow(NONE);
            return DONE;
        }

        int payIn(int seat, int half) {
            if (now.state != OPEN) {
                return OTHER_STATE;
            }
            Place p = now.placeAt(seat);
            if (p == null) {
                return NO_SEAT;
            }
            if (p.stopped) {
                return HAS_STOPPED;
            }
            if (half == 1 && p.holds != PAIR) {
                return OTHER_KIND;
            }
            if (!within(half, 0, 1)) {
                return WRONG_SIZE;
            }
            if (now.cells == NONE) {
                return NO_ROW;
            }
            if (seat >= now.cells) {
                return ROW_ENDS;
            }
            return half == 0 ? payFirst(p) : paySecond(p);
        }

        /** All but a PAIR pay the whole PAYMENT by this. */
        int payFirst(Place p) {
            if (p.firstPaid) {
                return PAID;
            }
            p.firstPaid = true;
            putIntoCell(p, p.holds == PAIR ? payment - payment / 2 : payment);
            return DONE;
        }

        int paySecond(Place p) {
            if (p.secondPaid) {
                return PAID;
            }
            p.secondPaid = true;
            putIntoCell(p, payment / 2);
            return DONE;
        }

        void putIntoCell(Place p, long sum) {
            p.cell += (int) sum;
            p.paid += sum;
        }

        int payDebt(int seat) {
            if (now.state != OPEN) {
                return OTHER_STATE;
            }
            Place p = now.placeAt(seat);
            if (p == null) {
                return NO_SEAT;
            }
            if (p.stopped) {
                return HAS_STOPPED;
            }
            if (p.debt == 0) {
                return PAID;
            }
            now.chest += p.debt + fine;
            now.fines += fine;
            p.paid += p.debt;
            p.debt = 0;
            return DONE;
        }

        int takeBid(int seat, long b) {
            int status = whyNoWish(seat, BY_BID);
            if (status != DONE) {
                return status;
            }
            Place p = now.placeAt(seat);
            if (p == null) {
                return NO_SEAT;
            }
            if (!within(b, 0, purse())) {
                return WRONG_SIZE;
            }
            p.offer = b;
            return DONE;
        }

        int ask(int seat) {
            int status = whyNoWish(seat, BY_NEED);
            if (status != DONE) {
                return status;
            }
            now.forgetYes();
            now.asks = seat;
            return DONE;
        }

        /** What keeps a PLACE from wishing to draw in this ROUND, in a RING of that KIND. */
        int whyNoWish(int seat, int wanted) {
            if (now.state != OPEN) {
                return OTHER_STATE;
            }
            if (kind != wanted) {
                return OTHER_KIND;
            }
            Place p = now.placeAt(seat);
            if (p == null) {
                return NO_SEAT;
            }
            if (p.stopped) {
                return HAS_STOPPED;
            }
            return p.drew ? PAID : DONE;
        }

        int sayYes(int seat) {
            if (now.state != OPEN) {
                return OTHER_STATE;
            }
            if (kind != BY_NEED) {
                return OTHER_KIND;
            }
            Place p = now.placeAt(seat);
            if (p == null || now.asks == NONE) {
                return NO_SEAT;
            }
            if (p.stopped) {
                return HAS_STOPPED;
            }
            if (p.drew || p.saidYes) {
                return PAID;
            }
            p.saidYes = true;
            return DONE;
        }

        int endRound() {
            if (now.state != OPEN) {
                return OTHER_STATE;
            }
            if (!now.roundIsLeft()) {
                return PAID;
            }
            keepBook();
            long in = collect();
            long chestGave = Math.min(now.chest, purse() - in);
            now.chest -= chestGave;
            long given = in + chestGave;
            int who = whoDraws();
            long bid = handOut(who, given);
            keepRound(who, given, bid, chestGave);
            now.forgetRound();
            now.round++;
            return DONE;
        }

        /** A book that undo() left behind is used again. */
        void keepBook() {
            int k = now.round;
            if (k < 0 || k >= SEATS) {
                return;
            }
            if (ahead[k] == null) {
                ahead[k] = new Book();
            }
            ahead[k].copyFrom(now);
        }

        void keepRound(int who, long given, long bid, long chestGave) {
            int at = now.round * KEPT;
            if (at < 0 || at + KEPT > kept.length) {
                return;
            }
            kept[at] = who;
            kept[at + 1] = given;
            kept[at + 2] = bid;
            kept[at + 3] = chestGave;
        }

        /** What is IN: the cells, and what SURETIES put in for those that are LATE. */
        long collect() {
            long in = 0;
            for (Place p : now.seats) {
                if (p.isGoing()) {
                    in += p.cell + putInFor(p, payment - p.cell);
                }
            }
            return in;
        }

        long putInFor(Place p, long lacks) {
            if (lacks <= 0) {
                return 0;
            }
            p.full = false;
            long put = 0;
            Place s = now.seatAt(p.surety);
            if (s != null && !s.stopped) {
                put = Math.min(lacks, s.deposit);
                s.deposit -= put;
            }
            p.claim += put;
            p.debt += lacks - put;
            return put;
        }

        int whoDraws() {
            switch (kind) {
                case BY_ORDER: return firstInOrder();
                case BY_LOT: return drawnByLot();
                case BY_BID: return bestBidder();
                default: return neediest();
            }
        }

        int firstInOrder() {
            for (int i = 0; i < toldCount && i < SEATS; i++) {
                Place p = now.seatAt(told[i]);
                if (p != null && p.isAble()) {
                    return told[i];
                }
            }
            return now.ableNumber(0);
        }

        int drawnByLot() {
            int able = now.countAble();
            if (able == 0) {
                return NONE;
            }
            int k = now.round;
            int x = k >= 0 && k < now.lotCount && k < MOST_LOTS ? lots[k] : 0;
            return now.ableNumber(x % able);
        }

        int bestBidder() {
            int best = NONE;
            long most = -1;
            for (int i = 0; i < SEATS; i++) {
                Place p = now.seats[i];
                if (p.isAble() && p.offer > most) {
                    best = i;
                    most = p.offer;
                }
            }
            return best;
        }

        int neediest() {
            Place p = now.seatAt(now.asks);
            boolean granted = p != null && p.isAble() && 2 * now.countYes() > now.countNeither();
            return granted ? now.asks : now.ableNumber(0);
        }

        /** Gives GIVEN to the one that draws, or to the CHEST without such; answers the BID. */
        long handOut(int who, long given) {
            Place p = now.seatAt(who);
            if (p == null) {
                now.chest += given;
                return 0;
            }
            int others = countOthers(who);
            long bid = others == 0 ? 0 : Math.min(p.offer, given);
            shareBid(who, others, bid);
            long left = given - bid;
            p.drewCoins = left - repayClaim(p, left);
            p.drew = true;
            return bid;
        }

        int countOthers(int who) {
            int n = 0;
            for (int i = 0; i < SEATS; i++) {
                n += i != who && now.seats[i].isGoing() ? 1 : 0;
            }
            return n;
        }

        void shareBid(int who, int others, long bid) {
            if (others <= 0) {
                return;
            }
            long part = bid / others;
            for (int i = 0; i < SEATS; i++) {
                Place p = now.seats[i];
                if (i != who && p.isGoing()) {
                    p.shared += part;
                }
            }
            long left = shareSingly(who, bid - part * others, true);
            shareSingly(who, left, false);
        }

        /** One coin each to those others that are NEITHER, or to those that are not. */
        long shareSingly(int who, long coins, boolean neither) {
            long left = coins;
            for (int i = 0; i < SEATS && left > 0; i++) {
                Place p = now.seats[i];
                if (i != who && p.isGoing() && p.isNeither() == neither) {
                    p.shared++;
                    left--;
                }
            }
            return left;
        }

        long repayClaim(Place p, long coins) {
            Place s = now.seatAt(p.surety);
            if (s == null) {
                return 0;
            }
            long sum = Math.min(p.claim, coins);
            s.deposit += sum;
            p.claim -= sum;
            return sum;
        }

        long keptOf(int k, int what) {
            boolean there = k >= 0 && k < now.round && k < SEATS && within(what, 0, KEPT - 1);
            return there ? kept[k * KEPT + what] : NONE;
        }

        int stopPlace(int seat) {
            if (now.state != OPEN) {
                return OTHER_STATE;
            }
            Place p = now.placeAt(seat);
            if (p == null) {
                return NO_SEAT;
            }
            if (p.stopped) {
                return HAS_STOPPED;
            }
            if (now.stopCount >= MOST_STOPS) {
                return NO_ROOM;
            }
            p.takeCellBack();
            p.offer = 0;
            p.saidYes = false;
            if (now.asks == seat) {
                now.asks = NONE;
            }
            keepStop(seat, p);
            p.stopped = true;
            p.full = false;
            p.debt = 0;
            p.takeDepositBack();
            return DONE;
        }

        void keepStop(int seat, Place p) {
            int i = now.stopCount;
            if (i < 0 || i >= MOST_STOPS) {
                return;
            }
            Stop s = stopped[i] == null ? new Stop() : stopped[i];
            s.seat = seat;
            s.round = now.round;
            s.owed = p.drew ? 0 : Math.max(0, p.paid - fine);
            s.owes = p.drew ? payment * (now.places - now.round) + p.debt : 0;
            s.unpaid = 0;
            stopped[i] = s;
            now.stopCount++;
        }

        int replacePlace(int seat, int what) {
            if (now.state != OPEN) {
                return OTHER_STATE;
            }
            Place p = now.placeAt(seat);
            if (p == null) {
                return NO_SEAT;
            }
            if (!p.stopped) {
                return PAID;
            }
            if (!within(what, PAYER, SURETY)) {
                return OTHER_KIND;
            }
            p.holds = what;
            p.stopped = false;
            p.claim = 0;
            p.paid = 0;
            p.drewCoins = 0;
            p.shared = 0;
            p.back = 0;
            return DONE;
        }

        long stopOf(int i, int what) {
            Stop s = i >= 0 && i < now.stopCount && i < MOST_STOPS ? stopped[i] : null;
            if (s == null) {
                return NONE;
            }
            switch (what) {
                case 0: return s.seat;
                case 1: return s.round;
                case 2: return s.owed;
                case 3: return s.owes;
                case 4: return now.state == CLOSED ? s.unpaid : 0;
                default: return NONE;
            }
        }

        int finish() {
            if (now.state != OPEN) {
                return OTHER_STATE;
            }
            if (now.roundIsLeft()) {
                return PAID;
            }
            for (Place p : now.seats) {
                p.takeDepositBack();
            }
            payStops();
            shareChest();
            now.state = CLOSED;
            return DONE;
        }

        void payStops() {
            for (int i = 0; i < now.stopCount && i < MOST_STOPS; i++) {
                Stop s = stopped[i];
                if (s != null) {
                    long sum = Math.min(s.owed, now.chest);
                    now.chest -= sum;
                    s.unpaid = s.owed - sum;
                }
            }
        }

        void shareChest() {
            int n = 0;
            for (Place p : now.seats) {
                n += p.full ? 1 : 0;
            }
            if (n <= 0) {
                return;
            }
            long part = now.chest / n;
            long left = now.chest - part * n;
            for (Place p : now.seats) {
                if (p.full) {
                    p.back += left > 0 ? part + 1 : part;
                    left--;
                }
            }
            now.chest = 0;
        }

        int fairness() {
            if (kind != BY_ORDER || now.state == BEING_MADE || now.stopCount > 0) {
                return NONE;
            }
            for (Place p : now.seats) {
                if (p.full && p.drew && p.drewCoins != purse()) {
                    return 0;
                }
            }
            return 1;
        }

        Book bookAhead(int k) {
            return k >= firstOwn && k >= 0 && k < now.round && k < SEATS ? ahead[k] : null;
        }

        int undoRound() {
            Book then = bookAhead(now.round - 1);
            if (then == null) {
                return NONE;
            }
            now.copyFrom(then);
            return now.round;
        }

        int firstOtherwise(long[] list) {
            for (int k = 0; k < now.round && k < SEATS; k++) {
                for (int i = 0; i < LISTED; i++) {
                    int at = k * LISTED + i;
                    if (at >= list.length || list[at] != kept[k * KEPT + i]) {
                        return k;
                    }
                }
            }
            return NONE;
        }

        long countOf(int what) {
            switch (what) {
                case 0: return kind;
                case 1: return payment;
                case 2: return fine;
                case 3: return now.chest;
                case 4: return now.state;
                case 5: return now.round;
                case 6: return now.places;
                case 7: return now.cells;
                case 8: return now.stopCount;
                case 9: return now.asks;
                case 10: return now.countYes();
                case 11: return now.lotCount;
                case 12: return now.round - firstOwn;
                case 13: return now.fines;
                default: return NONE;
            }
        }
    }
}
