/** Promises 12 to 15: states, the model and turns; what is due is reckoned by hand, or told in the shared runs. */
public final class StatesTest {
    public static void main(String[] args) {
        refusals();
        probeFromStart();
        staleIsAboveThousand();
        lastTwelveTurns();
        throughTheStates();
        manyOfBoth();
        Due.end();
    }

    private static void refusals() {
        ModelSender x = new ModelSender();
        for (int s : new int[] {-1, 2, Integer.MIN_VALUE, Integer.MAX_VALUE}) {
            Due.is("phase unknown", x.phase(s, 99), -1);
            Due.is("model unknown", x.model(s, 99), -1);
            Due.is("turn unknown", x.turn(s, 0, 99), -1);
        }
        for (int k : new int[] {-1, 0, 12, Integer.MIN_VALUE, Integer.MAX_VALUE}) Due.is("turn unknown k", x.turn(0, k, 2), -1);
        for (int what : new int[] {-1, 2, Integer.MIN_VALUE, Integer.MAX_VALUE}) Due.is("phase outside", x.phase(0, what), -2);
        for (int what : new int[] {-1, 5, Integer.MIN_VALUE, Integer.MAX_VALUE}) {
            Due.is("model outside", x.model(0, what), -2);
            Due.is("many outside", x.many(what), -2);
        }
        Due.is("no phase in START", x.phase(0, 0), -9);
        Due.is("no since in START", x.phase(0, 1), -9);
    }

    /** One letter alone: sent at NOW, answered 35 later; NOW is 1 more then. */
    private static void sendOneAt(ModelSender x, int tick) {
        for (int i = 0; i < 100 && x.many(0) < tick; i++) x.pass(Math.min(2000, tick - x.many(0)));
        x.stock(0, 1);
        Due.is("answer at " + (tick + 35), x.pass(36), 1);
    }

    private static void probeFromStart() {
        ModelSender x = new ModelSender();
        sendOneAt(x, 0);
        Due.is("TOP", x.model(0, 1), 28);
        Due.is("since LEAST AT", x.model(0, 3), 1);
        sendOneAt(x, 1100);
        Due.is("PROBE", x.ofSender(0, 0), 3);
        Due.is("WINDOW", x.ofSender(0, 6), 4);
        Due.is("GAIN", x.ofSender(0, 7), 100);
        Due.is("no END", x.model(0, 4), -9);
        Due.is("no phase in PROBE", x.phase(0, 0), -9);
        Due.is("LEAST AT is new", x.model(0, 3), 1);
        sendOneAt(x, 1136);
        Due.is("END is 1371", x.model(0, 4), 199);
        sendOneAt(x, 1335);
        Due.is("1370 is before END", x.model(0, 4), 0);
        Due.is("still PROBE", x.ofSender(0, 0), 3);
        x.pass(29);
        Due.is("END is not above", x.model(0, 4), 0);
        sendOneAt(x, 1400);
        Due.is("START, as FULL is no", x.ofSender(0, 0), 0);
        Due.is("END is none", x.model(0, 4), -9);
        Due.is("FULL", x.model(0, 0), 0);
        Due.is("turn 0", x.turn(0, 0, 0), 1135);
        Due.is("turn 0's state", x.turn(0, 0, 1), 3);
        Due.is("turn 1", x.turn(0, 1, 0), 1435);
        Due.is("turn 1's state", x.turn(0, 1, 1), 0);
        Due.is("turn outside", x.turn(0, 1, 2), -2);
        Due.is("turn outside below", x.turn(0, 1, -1), -2);
        Due.is("no third turn", x.turn(0, 2, 0), -1);
        Due.is("turns of both", x.many(3), 2);
    }

    private static void staleIsAboveThousand() {
        ModelSender x = new ModelSender();
        sendOneAt(x, 0);
        sendOneAt(x, 1000);
        Due.is("1000 is not STALE", x.ofSender(0, 0), 0);
        ModelSender y = new ModelSender();
        sendOneAt(y, 0);
        sendOneAt(y, 1001);
        Due.is("1001 is", y.ofSender(0, 0), 3);
    }

    private static void lastTwelveTurns() {
        ModelSender x = new ModelSender();
        sendOneAt(x, 0);
        for (int i = 0; i < 7; i++) {
            sendOneAt(x, 2000 * i + 1100);
            sendOneAt(x, 2000 * i + 1200);
            sendOneAt(x, 2000 * i + 1500);
        }
        for (int k = 0; k < 12; k++) {
            int i = 1 + k / 2;
            Due.is("turn " + k, x.turn(0, k, 0), 2000 * i + (k % 2 == 0 ? 1135 : 1535));
            Due.is("state of turn " + k, x.turn(0, k, 1), k % 2 == 0 ? 3 : 0);
        }
        Due.is("no more are kept", x.turn(0, 12, 0), -1);
        Due.is("all are counted", x.many(3), 14);
    }

    /** The first shared run: DRAIN at 325, CRUISE at 415, PROBE at 1095, CRUISE at 1325. */
    private static void throughTheStates() {
        ModelSender x = new ModelSender();
        x.stock(0, 5000);
        x.pass(325);
        Due.is("START", x.ofSender(0, 0), 0);
        Due.is("FLAT", x.model(0, 2), 2);
        Due.is("not FULL", x.model(0, 0), 0);
        x.pass(1);
        Due.is("DRAIN", x.ofSender(0, 0), 1);
        Due.is("GAIN of DRAIN", x.ofSender(0, 7), 35);
        Due.is("WINDOW of DRAIN", x.ofSender(0, 6), 20);
        Due.is("FULL", x.model(0, 0), 1);
        Due.is("FLAT is 3", x.model(0, 2), 3);
        x.pass(90);
        Due.is("CRUISE", x.ofSender(0, 0), 2);
        Due.is("WINDOW of CRUISE", x.ofSender(0, 6), 14);
        Due.is("PHASE 2", x.phase(0, 0), 2);
        Due.is("since 415", x.phase(0, 1), 1);
        int[] gains = {125, 75, 100, 100, 100, 100, 100, 100};
        boolean[] seen = new boolean[8];
        int last = 2;
        while (x.many(0) < 1095) {
            x.pass(1);
            int phase = x.phase(0, 0);
            Due.is("GAIN by PHASE", x.ofSender(0, 7), gains[phase]);
            if (phase != last) Due.is("the next PHASE", phase, (last + 1) % 8);
            if (phase != last) Due.is("since NOW", x.phase(0, 1), 1);
            last = phase;
            seen[phase] = true;
        }
        for (int i = 0; i < 8; i++) Due.is("PHASE " + i + " was there", seen[i] ? 1 : 0, 1);
        x.pass(1);
        Due.is("PROBE", x.ofSender(0, 0), 3);
        x.pass(229);
        Due.is("PROBE till 1325", x.ofSender(0, 0), 3);
        x.pass(1);
        Due.is("CRUISE again", x.ofSender(0, 0), 2);
        Due.is("in PHASE 2 again", x.phase(0, 0), 2);
        Due.is("turns", x.many(3), 4);
    }

    private static void manyOfBoth() {
        ModelSender x = new ModelSender();
        x.gate(10, 1, 1);
        x.stock(0, 3);
        x.stock(1, 3);
        x.pass(1);
        // Of 0 one is served, one waits, one is dropped; of 1 one is dropped.
        Due.is("LOSSES", x.many(2), 2);
        x.pass(11);
        Due.is("NOW", x.many(0), 12);
        Due.is("an ANSWER at 11", x.many(1), 1);
        Due.is("all ticks were busy", x.many(4), 12);
        Due.is("no turns", x.many(3), 0);
    }
}
