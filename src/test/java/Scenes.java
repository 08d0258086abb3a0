/** Ways to begin a test with, each reckoned by hand, and small steps that tests take over and over. */
final class Scenes {
    private Scenes() { }

    /** Till NOW is the tick: those before it have passed. How many answers were taken. */
    static int till(ModelSender x, int tick) {
        int taken = 0;
        for (int i = 0; i < 1000 && x.many(0) < tick; i++) taken += x.pass(Math.min(2000, tick - x.many(0)));
        Due.is("till " + tick, x.many(0), tick);
        return taken;
    }

    /** One letter more in stock as NOW is the tick; how many answers are taken from then on till NOW is the other. */
    static int sendAt(ModelSender x, int tick, int until) {
        till(x, tick);
        x.stock(0, 1);
        return till(x, until);
    }

    /**
     * SERVICE 20, DELAY 5: answers at 25, 45, 65 and so on. ROUND 1 begins at 25 with RATE 40, TOP 40; WINDOW falls from
     * 10 to 4. The 11th letter is sent at 145, as the 7th answer leaves 3 on the way; its own answer at 225 begins ROUND 2
     * with RATE 4000 by 80: BEST 50, TOP 50. From 145 on one is sent with each answer; ROUNDS 3, 4, 5 begin at 305, 385,
     * 465 with the answers of the 15th, 19th, 23rd letter, BEST still 50: FLAT 1, 2, 3, and so DRAIN at 465.
     */
    static ModelSender slow(int stock) {
        ModelSender x = new ModelSender();
        x.gate(20, 60, 5);
        x.stock(0, stock);
        return x;
    }

    /**
     * NOW is 466: the 23rd letter was the last one, so none is on the way as FULL is yes at 465: DRAIN, and CRUISE at once.
     * PHASE 2 since 465, BEST 50, LEAST 25, PRODUCT 1, WINDOW 4, ROUNDS 5, LIMIT 23; with GAIN 100 a letter each 20 TICKS.
     * A letter takes 25 TICKS from now on (SERVICE 1, DELAY 24), so LEAST stays.
     */
    static ModelSender cruising() {
        ModelSender x = slow(23);
        till(x, 466);
        x.gate(1, 60, 24);
        return x;
    }

    /**
     * Cruising, and so many phases on: each letter alone, sent at 466 and each 26 TICKS later, answered 25 after that: LATE.
     * PHASE 0 (6 phases on) is since 621, NOW is 622, ROUNDS 11.
     */
    static ModelSender cruising(int phasesOn) {
        ModelSender x = cruising();
        for (int i = 0; i < phasesOn; i++) {
            x.stock(0, 1);
            Due.is("the answer of phase " + i, x.pass(26), 1);
        }
        return x;
    }

    /**
     * SERVICE 10, DELAY 30: BEST 100, LEAST 40, PRODUCT 4; DRAIN at 430, CRUISE at 530. As it cruises, a letter is sent each
     * 10 TICKS and each answer comes 10 behind the one before; PHASE 0 begins at 1406, with 4 on the way, and a letter is
     * sent each 8 TICKS from 1408 on; PHASE 1 begins at 1446, with 5 on the way.
     */
    static ModelSender middle(int stock) {
        ModelSender x = new ModelSender();
        x.gate(10, 60, 30);
        x.stock(0, stock);
        return x;
    }

    /**
     * NOW is 441. Two letters at 0 are answered at 35 and 40: BEST 50, LEAST 35 at 35. Then one each 40 TICKS from 41 on, by
     * themselves and LIMITED, answered 36 later: their RATE of 27 is not kept, LEAST stays. With each a ROUND begins: with the
     * one that is the 11th ROUND, the SAMPLES of ROUND 1 go.
     */
    static ModelSender forgetful(int rounds) {
        ModelSender x = new ModelSender();
        x.stock(0, 2);
        till(x, 41);
        x.gate(5, 20, 31);
        for (int i = 2; i <= rounds; i++) {
            x.stock(0, 1);
            Due.is("the answer of round " + i, x.pass(40), 1);
        }
        return x;
    }

    /** All that can be asked of an object, one answer a line. */
    static String readings(ModelSender x) {
        StringBuilder all = new StringBuilder();
        for (int what = 0; what <= 6; what++) all.append("ofGate ").append(what).append(": ").append(x.ofGate(what)).append('\n');
        for (int what = 0; what <= 1; what++) all.append("busy ").append(what).append(": ").append(x.busy(what)).append('\n');
        for (int what = 0; what <= 4; what++) all.append("many ").append(what).append(": ").append(x.many(what)).append('\n');
        for (int s = 0; s <= 1; s++) readSender(x, s, all);
        return all.toString();
    }

    private static void readSender(ModelSender x, int s, StringBuilder all) {
        all.append("sender ").append(s).append('\n');
        for (int what = 0; what <= 13; what++) all.append("ofSender ").append(what).append(": ").append(x.ofSender(s, what)).append('\n');
        for (int what = 0; what <= 4; what++) all.append("model ").append(what).append(": ").append(x.model(s, what)).append('\n');
        for (int what = 0; what <= 1; what++) all.append("phase ").append(what).append(": ").append(x.phase(s, what)).append('\n');
        for (int n = 1; n <= 10; n++) all.append("best ").append(n).append(": ").append(x.best(s, n)).append('\n');
        for (int k = 0; x.sample(s, k, 0) != ModelSender.UNKNOWN; k++) {
            all.append("sample ").append(x.sample(s, k, 0)).append(' ').append(x.sample(s, k, 1)).append('\n');
        }
        for (int k = 0; x.letter(s, k, 0) != ModelSender.UNKNOWN; k++) {
            all.append("letter");
            for (int what = 0; what <= 3; what++) all.append(' ').append(x.letter(s, k, what));
            all.append('\n');
        }
        for (int k = 0; x.turn(s, k, 0) != ModelSender.UNKNOWN; k++) {
            all.append("turn ").append(x.turn(s, k, 0)).append(' ').append(x.turn(s, k, 1)).append('\n');
        }
    }
}
