import java.util.ArrayDeque;
import java.util.ArrayList;
import java.util.List;

/** The document told once more, as slowly and plainly as its words: what ModelSender is compared with. */
final class PlainModel {
    static final int UNKNOWN = -1, OUTSIDE = -2, FULL = -4, NONE = -9;

    static final class Mail {
        int sender = -1, number, sent, delivered, at;
        boolean limited, left;
        int due;
    }

    static final class Side {
        int stock, delivered, at, limit, rounds, mark, best, leastAt, sent, left, state, phase, since, top, flat;
        Integer least, end;
        long next;
        boolean full;
        final List<Mail> way = new ArrayList<>();
        final List<int[]> samples = new ArrayList<>();
        final List<Integer> lossTicks = new ArrayList<>();
        final List<int[]> turns = new ArrayList<>();

        long product() { return least == null ? 0 : (long) best * least / 1000; }

        long window() {
            long w;
            if (state == 3) w = 4;
            else if (best == 0 || least == null) w = 10;
            else if (state == 2) w = 2 * product();
            else w = 289 * product() / 100;
            return w < 4 ? 4 : w;
        }

        int gain() {
            if (state == 0) return 289;
            if (state == 1) return 35;
            if (state == 3) return 100;
            return phase == 0 ? 125 : phase == 1 ? 75 : 100;
        }
    }

    final Side[] sides = {new Side(), new Side()};
    int now, service = 5, room = 20, delay = 30, every, busyTicks, until, guestsLeft, guestsDropped, most;
    Mail served;
    final ArrayDeque<Mail> waiting = new ArrayDeque<>();

    int gate(int a, int b, int c) {
        if (a < 1 || a > 40 || b < 1 || b > 60 || c < 1 || c > 200) return OUTSIDE;
        service = a;
        room = b;
        delay = c;
        return 1;
    }

    int guests(int v) {
        if (v < 0 || v > 200) return OUTSIDE;
        int was = every;
        every = v;
        return was;
    }

    int stock(int s, int n) {
        if (s != 0 && s != 1) return UNKNOWN;
        if (n < 1 || n > 5000) return OUTSIDE;
        if (sides[s].stock + n > 100000) return FULL;
        return sides[s].stock += n;
    }

    int pass(int ticks) {
        if (ticks < 1 || ticks > 2000) return OUTSIDE;
        int before = many(1);
        for (int i = 0; i < ticks; i++) tick();
        return many(1) - before;
    }

    private void tick() {
        for (Side side : sides) {
            List<Mail> due = new ArrayList<>();
            for (Mail m : side.way) if (m.left && m.due == now) due.add(m);
            due.sort((x, y) -> Integer.compare(x.number, y.number));
            for (Mail m : due) take(side, m);
        }
        if (served != null && until == now) {
            if (served.sender < 0) guestsLeft++;
            else {
                sides[served.sender].left++;
                served.left = true;
                served.due = now + delay;
            }
            served = waiting.poll();
            if (served != null) until = now + service;
        }
        if (every > 0 && now % every == 0 && !comes(new Mail())) guestsDropped++;
        for (int s = 0; s < 2; s++) sends(s);
        if (served != null) busyTicks++;
        now++;
    }

    private boolean comes(Mail m) {
        if (served == null) {
            served = m;
            until = now + service;
            return true;
        }
        if (waiting.size() < room) {
            waiting.add(m);
            most = Math.max(most, waiting.size());
            return true;
        }
        return false;
    }

    private void sends(int s) {
        Side side = sides[s];
        int inThisTick = 0;
        while (side.stock > 0 && side.way.size() < side.window() && side.next <= 1000L * now && inThisTick < 8) {
            side.stock--;
            Mail m = new Mail();
            m.sender = s;
            m.number = side.sent++;
            if (side.way.isEmpty()) side.at = now;
            m.sent = now;
            m.delivered = side.delivered;
            m.at = side.at;
            m.limited = side.limit > 0;
            inThisTick++;
            boolean in = comes(m);
            if (in) side.way.add(m);
            if (side.best > 0) {
                if (side.next < 1000L * now) side.next = 1000L * now;
                side.next += 100000000L / ((long) side.best * side.gain());
            }
            if (!in) {
                side.lossTicks.add(now);
                break;
            }
        }
        if (side.stock == 0 && side.way.size() < side.window() && side.next <= 1000L * now) {
            side.limit = Math.max(1, side.delivered + side.way.size());
        }
    }

    private void take(Side side, Mail m) {
        side.delivered++;
        side.at = now;
        side.way.remove(m);
        if (side.limit > 0 && side.delivered > side.limit) side.limit = 0;
        boolean round = m.delivered >= side.mark;
        if (round) {
            side.rounds++;
            side.mark = side.delivered;
        }
        int took = now - m.at;
        int rate = 1000 * (side.delivered - m.delivered) / (took < 1 ? 1 : took);
        if (!m.limited || rate >= side.best) side.samples.add(new int[] {side.rounds, rate});
        side.samples.removeIf(x -> side.rounds - x[0] >= 10);
        side.best = 0;
        for (int[] x : side.samples) side.best = Math.max(side.best, x[1]);
        boolean stale = side.least != null && now - side.leastAt > 1000;
        if (side.least == null || stale || now - m.sent <= side.least) {
            side.least = now - m.sent;
            side.leastAt = now;
        }
        steps(side, m, round, stale);
    }

    private void steps(Side side, Mail m, boolean round, boolean stale) {
        if (side.state == 0 && round && !m.limited) {
            if (100 * side.best >= 125 * side.top) {
                side.top = side.best;
                side.flat = 0;
            } else {
                side.flat++;
                if (side.flat == 3) side.full = true;
            }
        }
        if (side.state == 0 && side.full) comesTo(side, 1);
        if (side.state == 1 && side.way.size() <= side.product()) {
            comesTo(side, 2);
            side.phase = 2;
            side.since = now;
        }
        if (side.state == 2) {
            boolean late = now - side.since >= side.least;
            // What was lost in the tick of the phase's begin was lost behind it: answers come first in a tick.
            boolean loss = side.lossTicks.stream().anyMatch(t -> t >= side.since);
            boolean over = late;
            if (side.phase == 0) over = late && (4 * side.way.size() >= 5 * side.product() || loss);
            if (side.phase == 1) over = late || side.way.size() <= side.product();
            if (over) {
                side.phase = (side.phase + 1) % 8;
                side.since = now;
            }
        }
        boolean wasProbe = side.state == 3;
        if (wasProbe) {
            if (side.end == null && side.way.size() <= 4) side.end = now + 200;
            else if (side.end != null && now >= side.end) {
                side.leastAt = now;
                if (side.full) {
                    comesTo(side, 2);
                    side.phase = 2;
                    side.since = now;
                } else {
                    comesTo(side, 0);
                }
            }
        }
        if (!wasProbe && stale) {
            comesTo(side, 3);
            side.end = null;
        }
    }

    private void comesTo(Side side, int state) {
        side.state = state;
        side.turns.add(new int[] {now, state});
    }

    int ofGate(int what) {
        int[] all = {waiting.size(), served == null ? 0 : 1, sides[0].left, sides[1].left, guestsLeft, guestsDropped, most};
        return what < 0 || what > 6 ? OUTSIDE : all[what];
    }

    long busy(int which) {
        if (which != 0 && which != 1) return Long.MIN_VALUE;
        if (now == 0) return which;
        int divisor = 1;
        for (int d = 2; d <= now; d++) if (busyTicks % d == 0 && now % d == 0) divisor = d;
        return (which == 0 ? busyTicks : now) / divisor;
    }

    int ofSender(int s, int what) {
        if (s != 0 && s != 1) return UNKNOWN;
        if (what < 0 || what > 13) return OUTSIDE;
        Side x = sides[s];
        long ahead = x.next - 1000L * now;
        long[] all = {x.state, x.way.size(), x.delivered, x.best, x.least == null ? NONE : x.least, x.product(), x.window(),
            x.gain(), x.rounds, x.lossTicks.size(), x.stock, x.limit, x.sent, ahead < 0 ? 0 : ahead};
        return Math.toIntExact(all[what]);
    }

    int sample(int s, int k, int what) {
        if (s != 0 && s != 1 || k < 0 || k >= sides[s].samples.size()) return UNKNOWN;
        return what < 0 || what > 1 ? OUTSIDE : sides[s].samples.get(k)[what];
    }

    int best(int s, int n) {
        if (s != 0 && s != 1) return UNKNOWN;
        if (n < 1 || n > 10) return OUTSIDE;
        int found = NONE;
        for (int[] x : sides[s].samples) if (x[0] > sides[s].rounds - n) found = Math.max(found, x[1]);
        return found;
    }

    int letter(int s, int k, int what) {
        if (s != 0 && s != 1 || k < 0 || k >= sides[s].way.size()) return UNKNOWN;
        Mail m = sides[s].way.get(k);
        int[] all = {m.number, m.sent, m.limited ? 1 : 0, m.left ? 1 : 0};
        return what < 0 || what > 3 ? OUTSIDE : all[what];
    }

    int phase(int s, int what) {
        if (s != 0 && s != 1) return UNKNOWN;
        if (what != 0 && what != 1) return OUTSIDE;
        if (sides[s].state != 2) return NONE;
        return what == 0 ? sides[s].phase : now - sides[s].since;
    }

    int model(int s, int what) {
        if (s != 0 && s != 1) return UNKNOWN;
        if (what < 0 || what > 4) return OUTSIDE;
        Side x = sides[s];
        int end = x.state != 3 || x.end == null ? NONE : Math.max(0, x.end - now);
        int[] all = {x.full ? 1 : 0, x.top, x.flat, now - x.leastAt, end};
        return all[what];
    }

    int turn(int s, int k, int what) {
        if (s != 0 && s != 1) return UNKNOWN;
        List<int[]> turns = sides[s].turns;
        List<int[]> kept = turns.subList(Math.max(0, turns.size() - 12), turns.size());
        if (k < 0 || k >= kept.size()) return UNKNOWN;
        return what < 0 || what > 1 ? OUTSIDE : kept.get(k)[what];
    }

    int many(int what) {
        int[] all = {now, sides[0].delivered + sides[1].delivered, sides[0].lossTicks.size() + sides[1].lossTicks.size(),
            sides[0].turns.size() + sides[1].turns.size(), busyTicks};
        return what < 0 || what > 4 ? OUTSIDE : all[what];
    }
}
