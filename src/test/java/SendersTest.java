/** Promises 8 to 11: senders, samples and letters; what is due is reckoned by hand. */
public final class SendersTest {
    private static final int[] NO_SENDERS = {-1, 2, Integer.MIN_VALUE, Integer.MAX_VALUE};

    public static void main(String[] args) {
        oneAnswer();
        refusals();
        limitOfAnIdleSender();
        paceByBest();
        dropPutsOffTheNextToo();
        windowWithoutModel();
        roundsAndSamples();
        samplesGo();
        rateOfNought();
        asManyOnTheWayAsCanBe();
        Due.end();
    }

    private static void oneAnswer() {
        ModelSender x = new ModelSender();
        x.stock(0, 1);
        x.pass(36);
        // RATE 1000 by 35; PRODUCT 28 times 35 by 1000; LIMIT stays at DELIVERED, as the stock is empty.
        int[] due = {0, 0, 1, 28, 35, 0, 4, 289, 1, 0, 0, 1, 1, 0};
        for (int what = 0; what < due.length; what++) Due.is("after one, ofSender " + what, x.ofSender(0, what), due[what]);
        Due.is("sample's ROUNDS", x.sample(0, 0, 0), 1);
        Due.is("sample's RATE", x.sample(0, 0, 1), 28);
        Due.is("one sample", x.sample(0, 1, 0), -1);
        Due.is("best of 1", x.best(0, 1), 28);
        Due.is("none of the other", x.best(1, 10), -9);
        Due.is("the other took none", x.ofSender(1, 2), 0);
    }

    private static void refusals() {
        ModelSender x = new ModelSender();
        x.stock(0, 2);
        x.pass(36);
        for (int s : NO_SENDERS) {
            Due.is("ofSender unknown", x.ofSender(s, 99), -1);
            Due.is("sample unknown", x.sample(s, 0, 99), -1);
            Due.is("best unknown", x.best(s, 99), -1);
            Due.is("letter unknown", x.letter(s, 0, 99), -1);
        }
        for (int what : new int[] {-1, 14, Integer.MIN_VALUE, Integer.MAX_VALUE}) Due.is("ofSender outside", x.ofSender(0, what), -2);
        for (int k : new int[] {-1, 1, Integer.MIN_VALUE, Integer.MAX_VALUE}) {
            Due.is("sample unknown k", x.sample(0, k, 0), -1);
            Due.is("sample unknown k comes first", x.sample(0, k, 2), -1);
            Due.is("letter unknown k", x.letter(0, k, 0), -1);
            Due.is("letter unknown k comes first", x.letter(0, k, 4), -1);
        }
        for (int what : new int[] {-1, 2, Integer.MIN_VALUE, Integer.MAX_VALUE}) Due.is("sample outside", x.sample(0, 0, what), -2);
        for (int what : new int[] {-1, 4, Integer.MIN_VALUE, Integer.MAX_VALUE}) Due.is("letter outside", x.letter(0, 0, what), -2);
        for (int n : new int[] {0, -1, 11, Integer.MIN_VALUE, Integer.MAX_VALUE}) Due.is("best outside", x.best(0, n), -2);
    }

    private static void limitOfAnIdleSender() {
        ModelSender x = new ModelSender();
        Due.is("LIMIT at first", x.ofSender(0, 11), 0);
        x.pass(1);
        Due.is("LIMIT is 1 at least", x.ofSender(0, 11), 1);
        x.stock(0, 3);
        x.pass(1);
        Due.is("LIMIT with three on the way", x.ofSender(0, 11), 3);
        for (int k = 0; k < 3; k++) {
            Due.is("number", x.letter(0, k, 0), k);
            Due.is("sent", x.letter(0, k, 1), 1);
            Due.is("limited", x.letter(0, k, 2), 1);
        }
        x.stock(0, 5000);
        x.pass(1);
        Due.is("limited too", x.letter(0, 3, 2), 1);
        // Answers at 36, 41, 46 leave LIMIT 3; the fourth, at 51, ends it.
        Due.is("three answers", x.pass(44), 3);
        Due.is("LIMIT before the fourth", x.ofSender(0, 11), 3);
        x.pass(5);
        Due.is("LIMIT with the fourth", x.ofSender(0, 11), 0);
    }

    private static void paceByBest() {
        ModelSender x = new ModelSender();
        x.stock(0, 1);
        x.pass(36);
        x.stock(0, 2);
        // BEST 28, GAIN 289: 100000000 by 8092 is 12357; sent at 36, the next at 49.
        x.pass(1);
        Due.is("one is sent at 36", x.ofSender(0, 12), 2);
        Due.is("NEXT", x.ofSender(0, 13), 36000 + 12357 - 37000);
        x.pass(11);
        Due.is("NEXT at 48", x.ofSender(0, 13), 357);
        x.pass(1);
        Due.is("none at 48", x.ofSender(0, 12), 2);
        Due.is("NEXT is not above", x.ofSender(0, 13), 0);
        x.pass(1);
        Due.is("one at 49", x.ofSender(0, 12), 3);
        Due.is("NEXT from 49 on", x.ofSender(0, 13), 49000 + 12357 - 50000);
        Due.is("sent at 36", x.letter(0, 0, 1), 36);
        Due.is("sent at 49", x.letter(0, 1, 1), 49);
    }

    private static void dropPutsOffTheNextToo() {
        ModelSender x = new ModelSender();
        x.stock(0, 1);
        x.pass(36);
        x.gate(40, 1, 30);
        x.guests(1);
        x.pass(2);
        x.stock(0, 2);
        x.pass(1);
        Due.is("dropped", x.ofSender(0, 9), 1);
        Due.is("sent though", x.ofSender(0, 12), 2);
        Due.is("not on the way", x.ofSender(0, 1), 0);
        Due.is("NEXT", x.ofSender(0, 13), 38000 + 12357 - 39000);
        Due.is("LIMIT stays, as stock is left", x.ofSender(0, 11), 1);
    }

    private static void windowWithoutModel() {
        ModelSender x = new ModelSender();
        x.stock(0, 100);
        x.pass(1);
        Due.is("eight in a tick", x.ofSender(0, 1), 8);
        x.pass(1);
        Due.is("ten by the window", x.ofSender(0, 1), 10);
        x.pass(33);
        Due.is("no more", x.ofSender(0, 1), 10);
        Due.is("none limited", x.letter(0, 9, 2), 0);
        x.pass(1);
        // BEST 28, LEAST 35: PRODUCT 0, WINDOW 4: none is sent for the answer.
        Due.is("nine", x.ofSender(0, 1), 9);
        Due.is("window", x.ofSender(0, 6), 4);
        Due.is("product", x.ofSender(0, 5), 0);
        Due.is("the oldest is 1", x.letter(0, 0, 0), 1);
    }

    private static void roundsAndSamples() {
        ModelSender x = new ModelSender();
        x.stock(0, 2);
        x.pass(41);
        // Both were sent at 0: answers at 35 and 40, one round, RATES 1000 by 35 and 2000 by 40.
        Due.is("rounds", x.ofSender(0, 8), 1);
        Due.is("rate 0", x.sample(0, 0, 1), 28);
        Due.is("rate 1", x.sample(0, 1, 1), 50);
        x.stock(0, 1);
        x.pass(36);
        // Sent at 41 with none on the way, LIMITED (LIMIT 2): 1000 by 35 is less than BEST 50, so none is kept.
        Due.is("two rounds", x.ofSender(0, 8), 2);
        Due.is("no third sample", x.sample(0, 2, 0), -1);
        Due.is("best of this round", x.best(0, 1), -9);
        Due.is("best of two rounds", x.best(0, 2), 50);
        Due.is("BEST", x.ofSender(0, 3), 50);
    }

    private static void samplesGo() {
        ModelSender x = new ModelSender();
        x.stock(0, 2);
        x.pass(41);
        for (int round = 2; round <= 10; round++) {
            Due.is("BEST in round " + (round - 1), x.ofSender(0, 3), 50);
            x.stock(0, 1);
            x.pass(40);
            Due.is("rounds", x.ofSender(0, 8), round);
        }
        Due.is("best of 9 in round 10", x.best(0, 9), -9);
        Due.is("best of 10 in round 10", x.best(0, 10), 50);
        x.stock(0, 1);
        x.pass(40);
        // Round 11: the RATE of 28 is less than BEST, as it was; with the samples of round 1 gone, BEST is 0.
        Due.is("none is left", x.sample(0, 0, 0), -1);
        Due.is("BEST", x.ofSender(0, 3), 0);
        Due.is("PRODUCT", x.ofSender(0, 5), 0);
        Due.is("WINDOW", x.ofSender(0, 6), 10);
        Due.is("best of 10", x.best(0, 10), -9);
        x.stock(0, 1);
        x.pass(40);
        Due.is("kept again", x.sample(0, 0, 0), 12);
        Due.is("its rate", x.sample(0, 0, 1), 28);
        Due.is("one alone", x.sample(0, 1, 1), -1);
    }

    private static void rateOfNought() {
        ModelSender x = new ModelSender();
        x.gate(40, 60, 200);
        x.guests(1);
        x.pass(40);
        x.guests(0);
        x.stock(0, 1);
        // Sent at 40, as the second of 40 guests begins to be served: behind 39 of them it leaves at 1640.
        x.pass(1600);
        Due.is("has not left", x.letter(0, 0, 3), 0);
        x.pass(1);
        Due.is("has left", x.letter(0, 0, 3), 1);
        x.pass(200);
        Due.is("LEAST", x.ofSender(0, 4), 1800);
        Due.is("BEST of 1000 by more than 1000", x.ofSender(0, 3), 0);
        Due.is("sample", x.sample(0, 0, 1), 0);
        Due.is("best is not NONE", x.best(0, 1), 0);
        Due.is("WINDOW as BEST is 0", x.ofSender(0, 6), 10);
        Due.is("NEXT stays", x.ofSender(0, 13), 0);
    }

    private static void asManyOnTheWayAsCanBe() {
        ModelSender x = new ModelSender();
        x.gate(1, 60, 200);
        for (int i = 0; i < 4; i++) x.stock(0, 5000);
        x.pass(1600);
        Due.is("START", x.ofSender(0, 0), 0);
        x.gate(40, 60, 200);
        x.pass(70);
        Due.is("the room is full", x.ofGate(0), 60);
        x.gate(1, 60, 200);
        x.pass(239);
        Due.is("the window is wider", x.ofSender(0, 6), 580);
        Due.is("one is served, 60 wait, 200 have left", x.ofSender(0, 1), 261);
        Due.is("the oldest has left", x.letter(0, 0, 3), 1);
        Due.is("the last that left", x.letter(0, 199, 3), 1);
        Due.is("the one served", x.letter(0, 200, 3), 0);
        Due.is("the last one", x.letter(0, 260, 0), x.ofSender(0, 12) - 1);
        Due.is("no other", x.letter(0, 261, 0), -1);
    }
}
