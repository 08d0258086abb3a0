/** Promises 1 to 7: a new object, the gate, guests, stocks and ticks; what is due is reckoned by hand. */
public final class GateTest {
    private static final int[] FAR = {Integer.MIN_VALUE, Integer.MAX_VALUE};

    public static void main(String[] args) {
        newObject();
        gateRefusesWhatIsOutside();
        gateHoldsForLaterLetters();
        thoseThatWaitStay();
        guestsComeAheadOfSenders();
        guestsAreDropped();
        guestsRefuse();
        stockEdges();
        passEdges();
        oneLetterGoesThrough();
        roomAndOrder();
        busyInLeastTerms();
        Due.end();
    }

    private static void newObject() {
        ModelSender x = new ModelSender();
        for (int what = 0; what <= 4; what++) Due.is("new many " + what, x.many(what), 0);
        for (int what = 0; what <= 6; what++) Due.is("new ofGate " + what, x.ofGate(what), 0);
        int[] first = {0, 0, 0, 0, -9, 0, 10, 289, 0, 0, 0, 0, 0, 0};
        for (int s = 0; s <= 1; s++) {
            for (int what = 0; what < first.length; what++) Due.is("new ofSender " + s + " " + what, x.ofSender(s, what), first[what]);
            for (int what = 0; what <= 3; what++) Due.is("new model " + s + " " + what, x.model(s, what), 0);
            Due.is("new model " + s + " 4", x.model(s, 4), -9);
            Due.is("new sample " + s, x.sample(s, 0, 0), -1);
            Due.is("new letter " + s, x.letter(s, 0, 0), -1);
            Due.is("new turn " + s, x.turn(s, 0, 0), -1);
        }
        Due.is("new guests", x.guests(9), 0);
    }

    private static void gateRefusesWhatIsOutside() {
        ModelSender x = new ModelSender();
        Due.is("gate lowest", x.gate(1, 1, 1), 1);
        Due.is("gate highest", x.gate(40, 60, 200), 1);
        int[][] outside = {{0, 1, 1}, {41, 1, 1}, {1, 0, 1}, {1, 61, 1}, {1, 1, 0}, {1, 1, 201}, {-3, -3, -3}};
        for (int[] g : outside) Due.is("gate outside", x.gate(g[0], g[1], g[2]), -2);
        for (int far : FAR) {
            Due.is("gate far service", x.gate(far, 1, 1), -2);
            Due.is("gate far room", x.gate(1, far, 1), -2);
            Due.is("gate far delay", x.gate(1, 1, far), -2);
        }
        // Still 40, 60, 200: sent at 0, leaves at 40, answered at 240.
        x.stock(0, 1);
        Due.is("pass before the answer", x.pass(240), 0);
        Due.is("pass of the answer", x.pass(1), 1);
        Due.is("LEAST", x.ofSender(0, 4), 240);
    }

    private static void gateHoldsForLaterLetters() {
        ModelSender x = new ModelSender();
        x.stock(0, 2);
        x.pass(6);
        Due.is("first has left", x.letter(0, 0, 3), 1);
        Due.is("second has not", x.letter(0, 1, 3), 0);
        x.gate(40, 20, 1);
        // The first is answered at 35 as before; the second is served till 10 as before, and answered at 11.
        Due.is("pass to 11", x.pass(5), 0);
        Due.is("pass of 11", x.pass(1), 1);
        Due.is("the first is still on the way", x.letter(0, 0, 0), 0);
        Due.is("and alone", x.letter(0, 1, 0), -1);
        Due.is("LEAST of the second", x.ofSender(0, 4), 11);
        Due.is("pass to 35", x.pass(23), 0);
        Due.is("pass of 35", x.pass(1), 1);
        Due.is("LEAST stays", x.ofSender(0, 4), 11);
        Due.is("RATE of the second", x.sample(0, 0, 1), 90);
        Due.is("RATE of the first", x.sample(0, 1, 1), 57);
        Due.is("one ROUND", x.ofSender(0, 8), 1);
        x.stock(0, 1);
        x.pass(40);
        Due.is("the new service holds now", x.ofGate(1), 1);
        x.pass(1);
        Due.is("till 40 later", x.ofGate(1), 0);
    }

    private static void thoseThatWaitStay() {
        ModelSender x = new ModelSender();
        x.gate(40, 20, 30);
        x.stock(0, 9);
        x.pass(1);
        Due.is("seven wait", x.ofGate(0), 7);
        Due.is("gate", x.gate(1, 3, 1), 1);
        Due.is("seven still wait", x.ofGate(0), 7);
        x.pass(1);
        Due.is("the ninth is dropped", x.ofSender(0, 9), 1);
        Due.is("none of those that wait", x.ofGate(0), 7);
        x.pass(38);
        Due.is("none left till 40", x.ofGate(2), 0);
        x.pass(4);
        Due.is("then one a tick", x.ofGate(2), 4);
        Due.is("most that waited", x.ofGate(6), 7);
    }

    private static void guestsComeAheadOfSenders() {
        ModelSender x = new ModelSender();
        x.gate(10, 1, 1);
        Due.is("guests", x.guests(5), 0);
        x.stock(0, 3);
        x.pass(1);
        Due.is("a guest is served, one letter waits", x.ofSender(0, 1), 1);
        Due.is("one is dropped", x.ofSender(0, 9), 1);
        Due.is("it was the last in this tick", x.ofSender(0, 10), 1);
        x.pass(5);
        Due.is("the guest of tick 5 is dropped", x.ofGate(5), 1);
        x.pass(5);
        Due.is("the guest left at 10", x.ofGate(4), 1);
        Due.is("the letter is served, the guest of 10 waits", x.ofGate(0), 1);
        Due.is("not yet left", x.ofGate(2), 0);
        Due.is("guests was", x.guests(0), 5);
        Due.is("guests was none", x.guests(200), 0);
    }

    private static void guestsAreDropped() {
        ModelSender x = new ModelSender();
        x.gate(40, 1, 1);
        x.guests(1);
        x.pass(10);
        Due.is("guests dropped", x.ofGate(5), 8);
        Due.is("one waits", x.ofGate(0), 1);
        Due.is("no LOSSES by guests", x.many(2), 0);
        x.guests(0);
        x.pass(71);
        Due.is("both left", x.ofGate(4), 2);
        Due.is("none is served", x.ofGate(1), 0);
        Due.is("busy ticks", x.many(4), 80);
    }

    private static void guestsRefuse() {
        ModelSender x = new ModelSender();
        x.guests(7);
        for (int v : new int[] {-1, 201, Integer.MIN_VALUE, Integer.MAX_VALUE}) Due.is("guests outside", x.guests(v), -2);
        Due.is("guests unchanged", x.guests(200), 7);
    }

    private static void stockEdges() {
        ModelSender x = new ModelSender();
        for (int s : new int[] {-1, 2, Integer.MIN_VALUE, Integer.MAX_VALUE}) {
            Due.is("stock unknown", x.stock(s, 1), -1);
            Due.is("stock unknown comes first", x.stock(s, 0), -1);
        }
        for (int n : new int[] {0, -1, 5001, Integer.MIN_VALUE, Integer.MAX_VALUE}) Due.is("stock outside", x.stock(1, n), -2);
        Due.is("stock 1", x.stock(1, 1), 1);
        Due.is("stock 4999", x.stock(1, 4999), 5000);
        for (int i = 2; i <= 19; i++) Due.is("stock 5000", x.stock(1, 5000), 5000 * i);
        Due.is("stock to one less", x.stock(1, 4999), 99999);
        Due.is("stock full", x.stock(1, 2), -4);
        Due.is("stock outside is told before full", x.stock(1, 5001), -2);
        Due.is("stock to the brim", x.stock(1, 1), 100000);
        Due.is("stock full again", x.stock(1, 1), -4);
        Due.is("it is unchanged", x.ofSender(1, 10), 100000);
        Due.is("the other has none", x.ofSender(0, 10), 0);
    }

    private static void passEdges() {
        ModelSender x = new ModelSender();
        for (int t : new int[] {0, -1, 2001, Integer.MIN_VALUE, Integer.MAX_VALUE}) Due.is("pass outside", x.pass(t), -2);
        Due.is("NOW unchanged", x.many(0), 0);
        Due.is("pass 1", x.pass(1), 0);
        Due.is("pass 2000", x.pass(2000), 0);
        Due.is("NOW", x.many(0), 2001);
    }

    private static void oneLetterGoesThrough() {
        ModelSender x = new ModelSender();
        x.stock(1, 1);
        x.pass(5);
        Due.is("served", x.ofGate(1), 1);
        Due.is("has not left", x.letter(1, 0, 3), 0);
        x.pass(1);
        Due.is("leaves at 5", x.letter(1, 0, 3), 1);
        Due.is("none is served", x.ofGate(1), 0);
        Due.is("left of 0", x.ofGate(2), 0);
        Due.is("left of 1", x.ofGate(3), 1);
        Due.is("till 34", x.pass(29), 0);
        Due.is("answered at 35", x.pass(1), 1);
        Due.is("none on the way", x.ofSender(1, 1), 0);
        for (int what : new int[] {-1, 7, Integer.MIN_VALUE, Integer.MAX_VALUE}) Due.is("ofGate outside", x.ofGate(what), -2);
    }

    private static void roomAndOrder() {
        ModelSender x = new ModelSender();
        x.gate(10, 2, 1);
        x.stock(0, 5);
        x.stock(1, 5);
        x.pass(1);
        Due.is("on the way of 0", x.ofSender(0, 1), 3);
        Due.is("losses of 0", x.ofSender(0, 9), 1);
        Due.is("stock of 0", x.ofSender(0, 10), 1);
        Due.is("on the way of 1", x.ofSender(1, 1), 0);
        Due.is("losses of 1", x.ofSender(1, 9), 1);
        Due.is("stock of 1", x.ofSender(1, 10), 4);
        Due.is("two wait", x.ofGate(0), 2);
        Due.is("no guests dropped", x.ofGate(5), 0);
        Due.is("losses of both", x.many(2), 2);
    }

    private static void busyInLeastTerms() {
        ModelSender x = new ModelSender();
        Due.is("busy 0 at first", x.busy(0), 0);
        Due.is("busy 1 at first", x.busy(1), 1);
        x.pass(7);
        Due.is("none of seven", x.busy(0), 0);
        Due.is("is 0 of 1", x.busy(1), 1);
        x.stock(0, 1);
        x.pass(5);
        Due.is("5 of 12", x.busy(0), 5);
        Due.is("5 of 12, lower", x.busy(1), 12);
        x.pass(3);
        Due.is("5 of 15", x.busy(0), 1);
        Due.is("5 of 15, lower", x.busy(1), 3);
        for (int which : new int[] {-1, 2, Integer.MIN_VALUE, Integer.MAX_VALUE}) Due.is("busy outside", x.busy(which), Long.MIN_VALUE);
        ModelSender all = new ModelSender();
        all.guests(5);
        all.pass(10);
        Due.is("all busy", all.busy(0), 1);
        Due.is("all busy, lower", all.busy(1), 1);
    }
}
