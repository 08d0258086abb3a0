import java.util.Random;

/** Long runs of drawn calls (the seeds are fixed), each answer compared with that of PlainModel. */
public final class ComparedRunsTest {
    private static final int CALLS = 512;
    private static final int[] ODD = {Integer.MIN_VALUE, -1, 0, 1, 2, 3, 4, 5, 7, 10, 11, 12, 13, 14, Integer.MAX_VALUE};

    private final Random random;
    private final ModelSender x = new ModelSender();
    private final PlainModel y = new PlainModel();
    private final String name;
    private int calls;

    private ComparedRunsTest(String name, long seed) {
        this.name = name + " " + seed;
        random = new Random(seed);
    }

    public static void main(String[] args) {
        for (int seed = 0; seed < 60 && !Due.anyWrong(); seed++) {
            new ComparedRunsTest("mixed", seed).mixed(40, 60, 200, 300);
            new ComparedRunsTest("short", seed).mixed(3, 4, 20, 60);
            new ComparedRunsTest("steady", seed).steady();
            new ComparedRunsTest("bunched", seed).bunched();
            new ComparedRunsTest("scarce", seed).scarce();
        }
        for (int seed = 0; seed < 4 && !Due.anyWrong(); seed++) new ComparedRunsTest("lasting", seed).lasting();
        new ComparedRunsTest("wide", 1).wide();
        Due.end();
    }

    private int drawn(int lowest, int highest) {
        return lowest + random.nextInt(highest - lowest + 1);
    }

    /** The gate, the guests and the stocks change all the time. */
    private void mixed(int service, int room, int delay, int ticks) {
        while (calls < CALLS) {
            int kind = random.nextInt(20);
            if (kind == 0) gate(drawn(1, service), drawn(1, room), drawn(1, delay));
            else if (kind == 1) guests(random.nextInt(3) == 0 ? 0 : drawn(1, 200));
            else if (kind == 2) stock(drawn(0, 1), drawn(1, 400));
            else if (kind <= 7) pass(drawn(1, ticks));
            else ask();
        }
        askAll();
    }

    /** One gate for long times, so that states go round. */
    private void steady() {
        gate(drawn(1, 8), drawn(1, 60), drawn(1, 200));
        guests(random.nextBoolean() ? 0 : drawn(3, 60));
        while (calls < CALLS) {
            if (calls % 40 == 3) stock(0, 5000);
            if (calls % 40 == 5 && random.nextBoolean()) stock(1, 5000);
            if (calls % 100 == 99) gate(drawn(1, 8), drawn(1, 60), drawn(1, 200));
            pass(drawn(1, 150));
            for (int i = 0; i < 6; i++) ask();
        }
        askAll();
    }

    /** Delays that get less with every tick: many answers at once, later letters answered first. */
    private void bunched() {
        stock(0, 5000);
        stock(1, 3000);
        int delay = 200;
        while (calls < CALLS) {
            gate(1, drawn(1, 60), delay);
            delay = delay <= 3 ? 200 : delay - drawn(0, 2);
            pass(random.nextInt(30) == 0 ? drawn(100, 400) : drawn(1, 2));
            ask();
        }
        askAll();
    }

    /** Little stock: letters that are limited, samples that go, rates of nought. */
    private void scarce() {
        gate(drawn(1, 40), drawn(1, 60), drawn(1, 200));
        guests(drawn(0, 40));
        while (calls < CALLS) {
            if (random.nextInt(3) == 0) stock(drawn(0, 1), drawn(1, 6));
            if (random.nextInt(60) == 0) gate(drawn(1, 40), drawn(1, 60), drawn(1, 200));
            pass(drawn(1, 400));
            for (int i = 0; i < 3; i++) ask();
        }
        askAll();
    }

    /** So many answers that the places of samples are used over and over. */
    private void lasting() {
        gate(1, 60, drawn(20, 200));
        for (int i = 0; i < 12; i++) {
            stock(0, 5000);
            if (i % 4 == 3) stock(1, drawn(1, 900));
            pass(drawn(1500, 2000));
            for (int k = 0; k < 20; k++) ask();
        }
        askAll();
    }

    /** As many letters on the way as there can be: a full room and a letter in each tick of the delay. */
    private void wide() {
        gate(1, 60, 200);
        for (int i = 0; i < 4; i++) stock(0, 5000);
        for (int i = 0; i < 25; i++) {
            pass(61);
            for (int what = 0; what <= 13; what++) ofSender(0, what);
            letter(0, 260, 0);
            letter(0, 261, 0);
        }
        askAll();
    }

    private void ask() {
        int s = random.nextInt(12) == 0 ? odd() : drawn(0, 1);
        int k = random.nextInt(3) == 0 ? odd() : drawn(0, 60);
        int what = random.nextInt(12) == 0 ? odd() : drawn(0, 4);
        switch (random.nextInt(14)) {
            case 0: ofGate(drawn(-1, 7)); break;
            case 1: busy(drawn(-1, 2)); break;
            case 2: case 3: case 4: ofSender(s, drawn(-1, 14)); break;
            case 5: sample(s, k, what); break;
            case 6: best(s, drawn(0, 11)); break;
            case 7: case 8: letter(s, k, what); break;
            case 9: phase(s, what); break;
            case 10: model(s, what); break;
            case 11: turn(s, random.nextInt(4) == 0 ? odd() : drawn(0, 12), drawn(-1, 2)); break;
            case 12: many(drawn(-1, 5)); break;
            default: refused(); break;
        }
    }

    private int odd() {
        return ODD[random.nextInt(ODD.length)];
    }

    private void refused() {
        switch (random.nextInt(4)) {
            case 0: gate(drawn(0, 41), drawn(0, 61) * 2, drawn(0, 201)); break;
            case 1: guests(random.nextBoolean() ? -drawn(1, 9) : drawn(201, 300)); break;
            case 2: stock(odd(), random.nextBoolean() ? drawn(-2, 0) : drawn(5001, 5003)); break;
            default: pass(random.nextBoolean() ? -drawn(0, 9) : drawn(2001, 9999)); break;
        }
    }

    private void askAll() {
        for (int what = 0; what <= 6; what++) ofGate(what);
        for (int what = 0; what <= 4; what++) many(what);
        for (int s = 0; s <= 1; s++) {
            for (int what = 0; what <= 13; what++) ofSender(s, what);
            for (int what = 0; what <= 4; what++) model(s, what);
            for (int what = 0; what <= 1; what++) {
                phase(s, what);
                for (int k = 0; k <= 12; k++) turn(s, k, what);
                for (int k = 0; k <= y.sides[s].samples.size(); k++) sample(s, k, what);
            }
            for (int n = 1; n <= 10; n++) best(s, n);
            for (int k = 0; k <= y.sides[s].way.size(); k++) for (int what = 0; what <= 3; what++) letter(s, k, what);
        }
    }

    private void due(String call, long got, long want) {
        calls++;
        Due.is(name + ", call " + calls + ": " + call, got, want);
    }

    private void gate(int a, int b, int c) { due("gate(" + a + ", " + b + ", " + c + ")", x.gate(a, b, c), y.gate(a, b, c)); }
    private void guests(int v) { due("guests(" + v + ")", x.guests(v), y.guests(v)); }
    private void stock(int s, int n) { due("stock(" + s + ", " + n + ")", x.stock(s, n), y.stock(s, n)); }
    private void pass(int t) { due("pass(" + t + ")", x.pass(t), y.pass(t)); }
    private void ofGate(int w) { due("ofGate(" + w + ")", x.ofGate(w), y.ofGate(w)); }
    private void busy(int w) { due("busy(" + w + ")", x.busy(w), y.busy(w)); }
    private void ofSender(int s, int w) { due("ofSender(" + s + ", " + w + ")", x.ofSender(s, w), y.ofSender(s, w)); }
    private void sample(int s, int k, int w) { due("sample(" + s + ", " + k + ", " + w + ")", x.sample(s, k, w), y.sample(s, k, w)); }
    private void best(int s, int n) { due("best(" + s + ", " + n + ")", x.best(s, n), y.best(s, n)); }
    private void letter(int s, int k, int w) { due("letter(" + s + ", " + k + ", " + w + ")", x.letter(s, k, w), y.letter(s, k, w)); }
    private void phase(int s, int w) { due("phase(" + s + ", " + w + ")", x.phase(s, w), y.phase(s, w)); }
    private void model(int s, int w) { due("model(" + s + ", " + w + ")", x.model(s, w), y.model(s, w)); }
    private void turn(int s, int k, int w) { due("turn(" + s + ", " + k + ", " + w + ")", x.turn(s, k, w), y.turn(s, k, w)); }
    private void many(int w) { due("many(" + w + ")", x.many(w), y.many(w)); }
}
