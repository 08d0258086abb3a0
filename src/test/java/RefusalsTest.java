/** Every refusal of every call, in its order where more than one fits, in several states; and that it changed nothing. */
public final class RefusalsTest {
    private static final int UNKNOWN = -1, OUTSIDE = -2, FULL = -4;
    private static final int MIN = Integer.MIN_VALUE, MAX = Integer.MAX_VALUE;
    private static final int[] NO_SENDERS = {-1, 2, MIN, MAX};
    private static final int SCENES = 7;

    public static void main(String[] args) {
        for (int scene = 0; scene < SCENES; scene++) {
            // Two objects that were treated alike: one is refused all that can be refused, the other is left in peace.
            ModelSender x = made(scene);
            ModelSender y = made(scene);
            same(scene, "as made", x, y);
            refuseSettings(x);
            same(scene, "refused gate, guests, pass", x, y);
            refuseStock(x);
            same(scene, "refused stock", x, y);
            refuseQuestions(x);
            same(scene, "refused questions", x, y);
            goOn(scene, x, y);
        }
        fullStock();
        leastAndGreatestAreTaken();
        Due.end();
    }

    private static ModelSender made(int scene) {
        switch (scene) {
            case 0: return new ModelSender();
            case 1: return running();
            case 2: return Scenes.cruising(3);
            case 3: return cruisingWithLetters();
            case 4: return probing();
            case 5: return draining();
            default: return brimful();
        }
    }

    /** Both send, guests come, some wait. */
    private static ModelSender running() {
        ModelSender x = new ModelSender();
        x.gate(7, 9, 50);
        x.guests(11);
        x.stock(0, 300);
        x.stock(1, 200);
        Scenes.till(x, 260);
        return x;
    }

    private static ModelSender cruisingWithLetters() {
        ModelSender x = Scenes.middle(5000);
        Scenes.till(x, 1450);
        return x;
    }

    private static ModelSender probing() {
        ModelSender x = Scenes.forgetful(11);
        Scenes.till(x, 1100);
        x.stock(0, 8);
        Scenes.till(x, 1155);
        Due.is("PROBE", x.ofSender(0, 0), 3);
        return x;
    }

    private static ModelSender draining() {
        ModelSender x = Scenes.slow(5000);
        Scenes.till(x, 470);
        Due.is("DRAIN", x.ofSender(0, 0), 1);
        return x;
    }

    private static ModelSender brimful() {
        ModelSender x = new ModelSender();
        for (int i = 0; i < 20; i++) {
            x.stock(0, 5000);
            x.stock(1, 5000);
        }
        return x;
    }

    private static void same(int scene, String when, ModelSender x, ModelSender y) {
        Due.is("scene " + scene + ", " + when + ": nothing is changed", Scenes.readings(x).equals(Scenes.readings(y)) ? 1 : 0, 1);
    }

    /** What can't be asked for, SERVICE, ROOM, DELAY and the rest, shows in what happens later. */
    private static void goOn(int scene, ModelSender x, ModelSender y) {
        for (int i = 0; i < 6; i++) {
            Due.is("scene " + scene + ": as many answers", x.pass(97), y.pass(97));
            same(scene, "97 TICKS later", x, y);
        }
        Due.is("scene " + scene + ": EVERY", x.guests(13), y.guests(13));
        for (int s = 0; s <= 1; s++) Due.is("scene " + scene + ": STOCK", x.stock(s, 40), y.stock(s, 40));
        Due.is("scene " + scene + ": as many answers", x.pass(1999), y.pass(1999));
        same(scene, "2000 TICKS later", x, y);
    }

    /** "SERVICE (1 .. 40 ..), ROOM (1 .. 60 ..), a DELAY (1 .. 200 ..); EVERY: 0 .. 200"; "TICKS (1 .. 2000)". */
    private static void refuseSettings(ModelSender x) {
        for (int n : new int[] {0, -1, 41, MIN, MAX}) Due.is("gate, SERVICE " + n, x.gate(n, 3, 3), OUTSIDE);
        for (int n : new int[] {0, -1, 61, MIN, MAX}) Due.is("gate, ROOM " + n, x.gate(3, n, 3), OUTSIDE);
        for (int n : new int[] {0, -1, 201, MIN, MAX}) Due.is("gate, DELAY " + n, x.gate(3, 3, n), OUTSIDE);
        Due.is("gate, all too small", x.gate(0, 0, 0), OUTSIDE);
        Due.is("gate, all too large", x.gate(41, 61, 201), OUTSIDE);
        for (int n : new int[] {-1, 201, MIN, MAX}) Due.is("guests " + n, x.guests(n), OUTSIDE);
        for (int n : new int[] {0, -1, 2001, MIN, MAX}) Due.is("pass " + n, x.pass(n), OUTSIDE);
    }

    /** "UNKNOWN; OUTSIDE; FULL": in this order. */
    private static void refuseStock(ModelSender x) {
        for (int s : NO_SENDERS) {
            for (int n : new int[] {1, 5000, 0, 5001, MIN, MAX}) Due.is("stock of " + s + ", " + n, x.stock(s, n), UNKNOWN);
        }
        for (int s = 0; s <= 1; s++) {
            for (int n : new int[] {0, -1, 5001, MIN, MAX}) Due.is("stock " + n, x.stock(s, n), OUTSIDE);
            int room = 100000 - x.ofSender(s, 10);
            if (room < 5000) {
                for (int n : new int[] {room + 1, 5000}) Due.is("stock " + n + ", full", x.stock(s, n), FULL);
            }
        }
    }

    private static void refuseQuestions(ModelSender x) {
        for (int what : new int[] {-1, 7, MIN, MAX}) Due.is("ofGate " + what, x.ofGate(what), OUTSIDE);
        for (int which : new int[] {-1, 2, MIN, MAX}) Due.is("busy " + which, x.busy(which), Long.MIN_VALUE);
        for (int what : new int[] {-1, 5, MIN, MAX}) Due.is("many " + what, x.many(what), OUTSIDE);
        for (int s : NO_SENDERS) refuseNoSender(x, s);
        for (int s = 0; s <= 1; s++) {
            for (int what : new int[] {-1, 14, MIN, MAX}) Due.is("ofSender " + what, x.ofSender(s, what), OUTSIDE);
            for (int n : new int[] {0, -1, 11, MIN, MAX}) Due.is("best " + n, x.best(s, n), OUTSIDE);
            // OUTSIDE also in a STATE of which NONE would be told.
            for (int what : new int[] {-1, 2, MIN, MAX}) Due.is("phase " + what, x.phase(s, what), OUTSIDE);
            for (int what : new int[] {-1, 5, MIN, MAX}) Due.is("model " + what, x.model(s, what), OUTSIDE);
            refuseSamples(x, s);
            refuseLetters(x, s);
            refuseTurns(x, s);
        }
    }

    /** UNKNOWN comes first, whether the other numbers are as told or not. */
    private static void refuseNoSender(ModelSender x, int s) {
        for (int other : new int[] {0, 1, -1, 99, MIN, MAX}) {
            Due.is("ofSender of " + s, x.ofSender(s, other), UNKNOWN);
            Due.is("best of " + s, x.best(s, other), UNKNOWN);
            Due.is("phase of " + s, x.phase(s, other), UNKNOWN);
            Due.is("model of " + s, x.model(s, other), UNKNOWN);
            for (int k : new int[] {0, -1, MAX}) {
                Due.is("sample of " + s, x.sample(s, k, other), UNKNOWN);
                Due.is("letter of " + s, x.letter(s, k, other), UNKNOWN);
                Due.is("turn of " + s, x.turn(s, k, other), UNKNOWN);
            }
        }
    }

    /** "UNKNOWN: SENDER, SAMPLE; OUTSIDE." */
    private static void refuseSamples(ModelSender x, int s) {
        int count = 0;
        while (x.sample(s, count, 0) != UNKNOWN) count++;
        for (int k : new int[] {-1, count, count + 1, MIN, MAX}) {
            for (int what : new int[] {0, 1, -1, 2, MIN, MAX}) Due.is("sample " + k + " of " + count, x.sample(s, k, what), UNKNOWN);
        }
        for (int what : new int[] {-1, 2, MIN, MAX}) {
            if (count > 0) Due.is("the oldest sample's " + what, x.sample(s, 0, what), OUTSIDE);
            if (count > 0) Due.is("the last sample's " + what, x.sample(s, count - 1, what), OUTSIDE);
        }
    }

    /** "UNKNOWN: SENDER, LETTER; OUTSIDE." */
    private static void refuseLetters(ModelSender x, int s) {
        int count = x.ofSender(s, 1);
        for (int k : new int[] {-1, count, count + 1, MIN, MAX}) {
            for (int what : new int[] {0, 3, -1, 4, MIN, MAX}) Due.is("letter " + k + " of " + count, x.letter(s, k, what), UNKNOWN);
        }
        for (int what : new int[] {-1, 4, MIN, MAX}) {
            if (count > 0) Due.is("the oldest letter's " + what, x.letter(s, 0, what), OUTSIDE);
            if (count > 0) Due.is("the last letter's " + what, x.letter(s, count - 1, what), OUTSIDE);
        }
    }

    /** "UNKNOWN: SENDER, TURN; OUTSIDE." */
    private static void refuseTurns(ModelSender x, int s) {
        int count = 0;
        while (count < 13 && x.turn(s, count, 0) != UNKNOWN) count++;
        for (int k : new int[] {-1, count, count + 1, 12, MIN, MAX}) {
            for (int what : new int[] {0, 1, -1, 2, MIN, MAX}) Due.is("turn " + k + " of " + count, x.turn(s, k, what), UNKNOWN);
        }
        for (int what : new int[] {-1, 2, MIN, MAX}) {
            if (count > 0) Due.is("the oldest turn's " + what, x.turn(s, 0, what), OUTSIDE);
            if (count > 0) Due.is("the last turn's " + what, x.turn(s, count - 1, what), OUTSIDE);
        }
    }

    private static void fullStock() {
        ModelSender x = brimful();
        Due.is("no sender, though full", x.stock(2, 1), UNKNOWN);
        Due.is("no sender, though outside and full", x.stock(-1, 5001), UNKNOWN);
        Due.is("outside, though full", x.stock(0, 5001), OUTSIDE);
        Due.is("outside below, though full", x.stock(1, 0), OUTSIDE);
        Due.is("full", x.stock(0, 1), FULL);
        Due.is("full with the most", x.stock(1, 5000), FULL);
        Due.is("unchanged", x.ofSender(0, 10) + x.ofSender(1, 10), 200000);
    }

    /** The next numbers on the other side of those that are refused. */
    private static void leastAndGreatestAreTaken() {
        ModelSender x = cruisingWithLetters();
        Due.is("gate least", x.gate(1, 1, 1), 1);
        Due.is("gate greatest", x.gate(40, 60, 200), 1);
        Due.is("gate", x.gate(10, 60, 30), 1);
        Due.is("guests greatest", x.guests(200), 0);
        Due.is("guests least", x.guests(0), 200);
        taken("ofGate", x.ofGate(0), x.ofGate(6));
        taken("many", x.many(0), x.many(4));
        taken("busy", (int) x.busy(0), (int) x.busy(1));
        taken("ofSender", x.ofSender(0, 0), x.ofSender(0, 13));
        taken("best", x.best(0, 1), x.best(0, 10));
        taken("phase", x.phase(0, 0), x.phase(0, 1));
        taken("model", x.model(0, 0), x.model(0, 3));
        Due.is("model 4 is NONE in CRUISE", x.model(0, 4), -9);
        taken("sample", x.sample(0, 0, 0), x.sample(0, 0, 1));
        taken("letter", x.letter(0, 0, 0), x.letter(0, x.ofSender(0, 1) - 1, 3));
        taken("turn", x.turn(0, 0, 0), x.turn(0, 1, 1));
        Due.is("pass least", x.pass(1), 0);
        Due.is("pass greatest", x.pass(2000) > 0 ? 1 : 0, 1);
        Due.is("stock least", x.stock(1, 1), 1);
        Due.is("stock greatest", x.stock(1, 5000), 5001);
    }

    private static void taken(String call, int least, int greatest) {
        Due.is(call + " of the least number is told", least >= 0 ? 1 : 0, 1);
        Due.is(call + " of the greatest number is told", greatest >= 0 ? 1 : 0, 1);
    }
}
