/** Two senders that share one gate, each pacing itself by a model of the way that it learns from answers. */
public final class ModelSender {
    public static final int UNKNOWN = -1, OUTSIDE = -2, FULL = -4, NONE = -9;
    public static final long LOST = Long.MIN_VALUE;

    private static final int MOST_STOCK = 100000;
    private static final int MOST_STOCK_AT_ONCE = 5000;
    private static final int MOST_TICKS_AT_ONCE = 2000;
    private static final int MOST_SERVICE = 40;
    private static final int MOST_ROOM = 60;
    private static final int MOST_DELAY = 200;
    private static final int MOST_EVERY = 200;

    // One letter a tick leaves the gate and its answer is due within the longest delay;
    // besides those, one letter is served and a full room waits.
    private static final int MOST_ON_WAY = MOST_DELAY + MOST_ROOM + 1;
    private static final int ROUNDS_KEPT = 10;
    // Letters sent since a round began start the next one with their answers,
    // so a round has no more answers than letters can be on the way.
    private static final int MOST_SAMPLES = ROUNDS_KEPT * MOST_ON_WAY;
    private static final int TURNS_KEPT = 12;

    private static final int START = 0, DRAIN = 1, CRUISE = 2, PROBE = 3;
    private static final int[] CRUISE_GAINS = {125, 75, 100, 100, 100, 100, 100, 100};
    private static final int FIRST_PHASE = 2;
    private static final int START_GAIN = 289, DRAIN_GAIN = 35, EVEN_GAIN = 100;
    private static final int LEAST_WINDOW = 4, FIRST_WINDOW = 10;
    private static final int MOST_SENT_A_TICK = 8;
    private static final long PACE = 100000000L;
    private static final int STALE_AFTER = 1000;
    private static final int PROBE_TICKS = 200;
    private static final int FLAT_ROUNDS = 3;
    private static final int NO_END = -1;

    private final Gate way;
    private final Sender zero;
    private final Sender one;
    private int now;
    private int every;
    private int busyTicks;

    public ModelSender() {
        way = new Gate();
        zero = new Sender();
        one = new Sender();
    }

    // ---- 1 the gate

    public int gate(int service, int room, int delay) {
        if (!within(service, 1, MOST_SERVICE) || !within(room, 1, MOST_ROOM) || !within(delay, 1, MOST_DELAY)) {
            return OUTSIDE;
        }
        way.service = service;
        way.room = room;
        way.delay = delay;
        return 1;
    }

    public int guests(int v) {
        if (!within(v, 0, MOST_EVERY)) {
            return OUTSIDE;
        }
        int before = every;
        every = v;
        return before;
    }

    public int stock(int s, int n) {
        Sender sender = senderOf(s);
        if (sender == null) {
            return UNKNOWN;
        }
        if (!within(n, 1, MOST_STOCK_AT_ONCE)) {
            return OUTSIDE;
        }
        if (sender.stock + n > MOST_STOCK) {
            return FULL;
        }
        sender.stock += n;
        return sender.stock;
    }

    public int pass(int ticks) {
        if (!within(ticks, 1, MOST_TICKS_AT_ONCE)) {
            return OUTSIDE;
        }
        int taken = 0;
        for (int i = 0; i < ticks; i++) {
            taken += runTick();
        }
        return taken;
    }

    public int ofGate(int what) {
        switch (what) {
            case 0: return way.waiting;
            case 1: return asNumber(way.served != null);
            case 2: return zero.left;
            case 3: return one.left;
            case 4: return way.guestsLeft;
            case 5: return way.guestsDropped;
            case 6: return way.mostWaiting;
            default: return OUTSIDE;
        }
    }

    public long busy(int which) {
        if (!within(which, 0, 1)) {
            return LOST;
        }
        int divisor = greatestDivisor(busyTicks, now);
        if (divisor == 0) {
            // No tick has passed: 0 of 1.
            return which;
        }
        return (which == 0 ? busyTicks : now) / divisor;
    }

    // ---- 2 senders

    public int ofSender(int s, int what) {
        Sender sender = senderOf(s);
        if (sender == null) {
            return UNKNOWN;
        }
        switch (what) {
            case 0: return sender.course.state;
            case 1: return sender.onWay.count;
            case 2: return sender.delivered;
            case 3: return sender.best;
            case 4: return sender.least;
            case 5: return (int) sender.product();
            case 6: return (int) sender.window();
            case 7: return sender.course.gain();
            case 8: return sender.rounds;
            case 9: return sender.losses;
            case 10: return sender.stock;
            case 11: return sender.limit;
            case 12: return sender.sent;
            case 13: return (int) Math.max(0L, sender.next - 1000L * now);
            default: return OUTSIDE;
        }
    }

    public int sample(int s, int k, int what) {
        Sender sender = senderOf(s);
        if (sender == null || !within(k, 0, sender.samples.count - 1)) {
            return UNKNOWN;
        }
        switch (what) {
            case 0: return sender.samples.roundsOf(k, sender.rounds);
            case 1: return sender.samples.rateOf(k);
            default: return OUTSIDE;
        }
    }

    public int best(int s, int n) {
        Sender sender = senderOf(s);
        if (sender == null) {
            return UNKNOWN;
        }
        if (!within(n, 1, ROUNDS_KEPT)) {
            return OUTSIDE;
        }
        return sender.samples.greatestOfLast(n);
    }

    public int letter(int s, int k, int what) {
        Sender sender = senderOf(s);
        Letter letter = sender == null ? null : sender.onWay.at(k);
        if (letter == null) {
            return UNKNOWN;
        }
        switch (what) {
            case 0: return letter.number;
            case 1: return letter.sent;
            case 2: return asNumber(letter.limited);
            case 3: return asNumber(letter.hasLeft);
            default: return OUTSIDE;
        }
    }

    // ---- 3 states

    public int phase(int s, int what) {
        Sender sender = senderOf(s);
        if (sender == null) {
            return UNKNOWN;
        }
        if (!within(what, 0, 1)) {
            return OUTSIDE;
        }
        Course course = sender.course;
        if (course.state != CRUISE) {
            return NONE;
        }
        return what == 0 ? course.phase : now - course.since;
    }

    public int model(int s, int what) {
        Sender sender = senderOf(s);
        if (sender == null) {
            return UNKNOWN;
        }
        switch (what) {
            case 0: return asNumber(sender.course.full);
            case 1: return sender.course.top;
            case 2: return sender.course.flat;
            case 3: return now - sender.leastAt;
            case 4: return sender.course.ticksToEnd(now);
            default: return OUTSIDE;
        }
    }

    public int turn(int s, int k, int what) {
        Sender sender = senderOf(s);
        if (sender == null || !within(k, 0, sender.course.turnsKept - 1)) {
            return UNKNOWN;
        }
        switch (what) {
            case 0: return sender.course.turnTicks[k];
            case 1: return sender.course.turnStates[k];
            default: return OUTSIDE;
        }
    }

    public int many(int what) {
        switch (what) {
            case 0: return now;
            case 1: return zero.delivered + one.delivered;
            case 2: return zero.losses + one.losses;
            case 3: return zero.course.turns + one.course.turns;
            case 4: return busyTicks;
            default: return OUTSIDE;
        }
    }

    private Sender senderOf(int s) {
        if (s == 0) {
            return zero;
        }
        return s == 1 ? one : null;
    }

    private int runTick() {
        int taken = zero.takeDue(now) + one.takeDue(now);
        way.release(now);
        if (every > 0 && now % every == 0) {
            way.admitGuest(now);
        }
        zero.sendAll(way, now);
        one.sendAll(way, now);
        if (way.served != null) {
            busyTicks++;
        }
        now++;
        return taken;
    }

    private static boolean within(int number, int lowest, int highest) {
        return number >= lowest && number <= highest;
    }

    private static int asNumber(boolean yes) {
        return yes ? 1 : 0;
    }

    private static int greatestDivisor(int a, int b) {
        int x = a;
        int y = b;
        // Euclid's steps on two ints are fewer than fifty.
        for (int i = 0; i < 64 && y != 0; i++) {
            int rest = x % y;
            x = y;
            y = rest;
        }
        return x;
    }

    private static final class Letter {
        /** Null for a guest's letter. */
        final Sender owner;
        int number;
        int sent;
        int delivered;
        int at;
        boolean limited;
        boolean hasLeft;
        int due;

        Letter(Sender owner) {
            this.owner = owner;
        }
    }

    /** Serves one letter at a time, lets others wait in a ring of places. */
    private static final class Gate {
        int service = 5;
        int room = 20;
        int delay = 30;
        Letter served;
        int until;
        final Letter[] line = new Letter[MOST_ROOM];
        int head;
        int waiting;
        int mostWaiting;
        int guestsLeft;
        int guestsDropped;
        // Guests are never asked about one by one, so one letter stands for all of them.
        final Letter guest = new Letter(null);

        void admitGuest(int now) {
            if (!admit(guest, now)) {
                guestsDropped++;
            }
        }

        /** Whether the letter is served or waits; else it is dropped. */
        boolean admit(Letter letter, int now) {
            if (served == null) {
                serve(letter, now);
                return true;
            }
            int place = head + waiting;
            if (place >= line.length) {
                place -= line.length;
            }
            if (waiting >= room || place < 0 || place >= line.length) {
                return false;
            }
            line[place] = letter;
            waiting++;
            mostWaiting = Math.max(mostWaiting, waiting);
            return true;
        }

        void release(int now) {
            if (served == null || until != now) {
                return;
            }
            if (served.owner == null) {
                guestsLeft++;
            } else {
                served.owner.left++;
                served.hasLeft = true;
                served.due = now + delay;
            }
            served = null;
            serveFirstWaiting(now);
        }

        private void serveFirstWaiting(int now) {
            if (waiting <= 0 || head < 0 || head >= line.length) {
                return;
            }
            serve(line[head], now);
            line[head] = null;
            head = head + 1 < line.length ? head + 1 : 0;
            waiting--;
        }

        private void serve(Letter letter, int now) {
            served = letter;
            until = now + service;
        }
    }

    /** A sender's letters on the way, the oldest first; behind them lie letters to be used again. */
    private static final class OnWay {
        // One place more: even when no other can be on the way, a letter may be sent and dropped.
        final Letter[] letters = new Letter[MOST_ON_WAY + 1];
        int count;

        /** The k-th letter on the way; null, if there is none. */
        Letter at(int k) {
            return k >= 0 && k < count && k < letters.length ? letters[k] : null;
        }

        /** The letter to be sent next, on the way only by the next call of add; null, if no more can be. */
        Letter blank(Sender owner) {
            if (count < 0 || count >= letters.length) {
                return null;
            }
            if (letters[count] == null) {
                letters[count] = new Letter(owner);
            }
            return letters[count];
        }

        void add() {
            if (count < letters.length) {
                count++;
            }
        }

        void remove(int k) {
            Letter gone = at(k);
            if (gone == null) {
                return;
            }
            for (int i = k; i + 1 < count && i + 1 < letters.length; i++) {
                letters[i] = letters[i + 1];
            }
            count--;
            letters[count] = gone;
        }
    }

    /** Rates in a ring, the oldest first; by how many rounds ago, how many they are and the greatest of them. */
    private static final class Samples {
        final int[] rates = new int[MOST_SAMPLES];
        final int[] counts = new int[ROUNDS_KEPT];
        final int[] greatest = new int[ROUNDS_KEPT];
        int first;
        int count;

        /** All are a round older, and those that are too old then go. */
        void beginRound() {
            int gone = counts[ROUNDS_KEPT - 1];
            first = ringPlace(gone);
            count -= gone;
            for (int back = ROUNDS_KEPT - 1; back > 0; back--) {
                counts[back] = counts[back - 1];
                greatest[back] = greatest[back - 1];
            }
            counts[0] = 0;
            greatest[0] = 0;
        }

        void keep(int rate) {
            int place = ringPlace(count);
            if (count >= rates.length || place < 0 || place >= rates.length) {
                return;
            }
            rates[place] = rate;
            count++;
            counts[0]++;
            greatest[0] = Math.max(greatest[0], rate);
        }

        int greatestOfAll() {
            return Math.max(0, greatestOfLast(ROUNDS_KEPT));
        }

        /** NONE, if there is no sample of these rounds. */
        int greatestOfLast(int n) {
            int found = NONE;
            for (int back = 0; back < n && back < ROUNDS_KEPT; back++) {
                if (counts[back] > 0) {
                    found = Math.max(found, greatest[back]);
                }
            }
            return found;
        }

        int rateOf(int k) {
            int place = ringPlace(k);
            return place >= 0 && place < rates.length ? rates[place] : UNKNOWN;
        }

        int roundsOf(int k, int rounds) {
            int older = 0;
            for (int back = ROUNDS_KEPT - 1; back >= 0; back--) {
                older += counts[back];
                if (k < older) {
                    return rounds - back;
                }
            }
            return UNKNOWN;
        }

        private int ringPlace(int k) {
            int place = first + k;
            return place >= rates.length ? place - rates.length : place;
        }
    }

    /** What a sender has learnt, and how it sends and takes answers by that. */
    private static final class Sender {
        final OnWay onWay = new OnWay();
        final Samples samples = new Samples();
        final Course course = new Course();
        int stock;
        int sent;
        int left;
        int losses;
        int delivered;
        int at;
        int limit;
        int rounds;
        int mark;
        int best;
        int least = NONE;
        int leastAt;
        long next;

        long product() {
            return least == NONE ? 0L : (long) best * least / 1000L;
        }

        long window() {
            if (course.state == PROBE) {
                return LEAST_WINDOW;
            }
            if (best == 0 || least == NONE) {
                return FIRST_WINDOW;
            }
            long wide = course.state == CRUISE ? 2L * product() : START_GAIN * product() / 100L;
            return Math.max(LEAST_WINDOW, wide);
        }

        void sendAll(Gate gate, int now) {
            long window = window();
            boolean more = true;
            for (int i = 0; i < MOST_SENT_A_TICK && more && stock > 0 && isFree(window, now); i++) {
                more = sendOne(gate, now);
            }
            if (stock == 0 && isFree(window, now)) {
                limit = Math.max(1, delivered + onWay.count);
            }
        }

        private boolean isFree(long window, int now) {
            return onWay.count < window && next <= 1000L * now;
        }

        /** Whether the gate took the letter. */
        private boolean sendOne(Gate gate, int now) {
            Letter letter = onWay.blank(this);
            if (letter == null) {
                return false;
            }
            stock--;
            if (onWay.count == 0) {
                at = now;
            }
            letter.number = sent;
            letter.sent = now;
            letter.delivered = delivered;
            letter.at = at;
            letter.limited = limit > 0;
            letter.hasLeft = false;
            sent++;
            boolean taken = gate.admit(letter, now);
            if (taken) {
                onWay.add();
            } else {
                losses++;
            }
            putOffNext(now);
            return taken;
        }

        private void putOffNext(int now) {
            long divisor = (long) best * course.gain();
            if (divisor > 0L) {
                next = Math.max(next, 1000L * now) + PACE / divisor;
            }
        }

        /** How many answers were taken. */
        int takeDue(int now) {
            int before = delivered;
            int k = 0;
            for (int i = 0; i < MOST_ON_WAY; i++) {
                Letter letter = onWay.at(k);
                // The gate keeps the order of letters, so none behind this one has left.
                if (letter == null || !letter.hasLeft) {
                    break;
                }
                if (letter.due == now) {
                    onWay.remove(k);
                    take(letter, now);
                } else {
                    k++;
                }
            }
            return delivered - before;
        }

        private void take(Letter letter, int now) {
            delivered++;
            at = now;
            if (limit > 0 && delivered > limit) {
                limit = 0;
            }
            boolean roundBegan = letter.delivered >= mark;
            if (roundBegan) {
                rounds++;
                mark = delivered;
                samples.beginRound();
            }
            learnRate(letter, now);
            boolean stale = least != NONE && now - leastAt > STALE_AFTER;
            int lasted = now - letter.sent;
            if (least == NONE || stale || lasted <= least) {
                least = lasted;
                leastAt = now;
            }
            course.follow(this, now, roundBegan && !letter.limited, stale);
        }

        private void learnRate(Letter letter, int now) {
            int rate = 1000 * (delivered - letter.delivered) / Math.max(1, now - letter.at);
            if (!letter.limited || rate >= best) {
                samples.keep(rate);
            }
            best = samples.greatestOfAll();
        }
    }

    /** The state a sender is in, and the turns it took. */
    private static final class Course {
        int state = START;
        int phase;
        int since;
        int lossesBefore;
        int end = NO_END;
        boolean full;
        int top;
        int flat;
        int turns;
        // The last turns, the oldest first.
        int turnsKept;
        final int[] turnTicks = new int[TURNS_KEPT];
        final int[] turnStates = new int[TURNS_KEPT];

        int gain() {
            switch (state) {
                case START: return START_GAIN;
                case DRAIN: return DRAIN_GAIN;
                case CRUISE: return phase >= 0 && phase < CRUISE_GAINS.length ? CRUISE_GAINS[phase] : EVEN_GAIN;
                default: return EVEN_GAIN;
            }
        }

        /** The steps (a) to (f) behind an answer; fresh: a round began with it and its letter is not limited. */
        void follow(Sender sender, int now, boolean fresh, boolean stale) {
            if (state == START && fresh) {
                watchTop(sender.best);
            }
            if (state == START && full) {
                enter(DRAIN, sender, now);
            }
            if (state == DRAIN && sender.onWay.count <= sender.product()) {
                enter(CRUISE, sender, now);
            }
            if (state == CRUISE && phaseIsOver(sender, now)) {
                beginPhase(phase + 1 < CRUISE_GAINS.length ? phase + 1 : 0, sender, now);
            }
            if (state == PROBE) {
                probe(sender, now);
            } else if (stale) {
                enter(PROBE, sender, now);
            }
        }

        private void watchTop(int best) {
            if (100L * best >= 125L * top) {
                top = best;
                flat = 0;
                return;
            }
            flat++;
            if (flat == FLAT_ROUNDS) {
                full = true;
            }
        }

        private boolean phaseIsOver(Sender sender, int now) {
            boolean late = now - since >= sender.least;
            int count = sender.onWay.count;
            if (phase == 0) {
                boolean lost = sender.losses != lossesBefore;
                return late && (4L * count >= 5L * sender.product() || lost);
            }
            if (phase == 1) {
                return late || count <= sender.product();
            }
            return late;
        }

        private void probe(Sender sender, int now) {
            if (end == NO_END) {
                if (sender.onWay.count <= LEAST_WINDOW) {
                    end = now + PROBE_TICKS;
                }
            } else if (now >= end) {
                sender.leastAt = now;
                enter(full ? CRUISE : START, sender, now);
            }
        }

        private void beginPhase(int which, Sender sender, int now) {
            phase = which;
            since = now;
            lossesBefore = sender.losses;
        }

        private void enter(int which, Sender sender, int now) {
            state = which;
            // A phase tells nothing but in CRUISE, an end nothing but in PROBE, so both may begin with any state.
            beginPhase(FIRST_PHASE, sender, now);
            end = NO_END;
            keepTurn(which, now);
        }

        private void keepTurn(int which, int now) {
            turns++;
            if (turnsKept < TURNS_KEPT) {
                turnsKept++;
            } else {
                for (int k = 1; k < TURNS_KEPT; k++) {
                    turnTicks[k - 1] = turnTicks[k];
                    turnStates[k - 1] = turnStates[k];
                }
            }
            int last = turnsKept - 1;
            if (last >= 0 && last < TURNS_KEPT) {
                turnTicks[last] = now;
                turnStates[last] = which;
            }
        }

        int ticksToEnd(int now) {
            return state == PROBE && end != NO_END ? Math.max(0, end - now) : NONE;
        }
    }
}
