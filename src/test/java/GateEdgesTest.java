/** Section 1, promises 1 to 7: each sentence that names an edge has a test of its own; what is due is reckoned by hand. */
public final class GateEdgesTest {
    private static final int SERVED = 1, WAITING = 0, LEFT_0 = 2, LEFT_1 = 3, GUESTS_LEFT = 4, GUESTS_DROPPED = 5, MOST = 6;

    public static void main(String[] args) {
        settings();
        guests();
        comingToTheGate();
        orderInATick();
        laterOnesAlone();
        stocks();
        passing();
        asking();
        Due.end();
    }

    private static void settings() {
        nowIsNoughtAtFirst();
        serviceAtFirst();
        serviceLeast();
        serviceGreatest();
        roomAtFirst();
        roomLeast();
        roomGreatest();
        delayAtFirst();
        delayLeast();
        delayGreatest();
    }

    /** "NOW is 0 at first"; "STOCKS are empty". */
    private static void nowIsNoughtAtFirst() {
        ModelSender x = new ModelSender();
        Due.is("NOW at first", x.many(0), 0);
        Due.is("STOCK 0 at first", x.ofSender(0, 10), 0);
        Due.is("STOCK 1 at first", x.ofSender(1, 10), 0);
        x.pass(1);
        Due.is("nothing was sent", x.ofSender(0, 12) + x.ofSender(1, 12), 0);
    }

    private static void servedFor(String what, ModelSender x, int service) {
        x.stock(0, 1);
        Scenes.till(x, service);
        Due.is(what + ": served till " + service, x.ofGate(SERVED), 1);
        Due.is(what + ": has not left before", x.ofGate(LEFT_0), 0);
        x.pass(1);
        Due.is(what + ": none is served then", x.ofGate(SERVED), 0);
        Due.is(what + ": has left", x.ofGate(LEFT_0), 1);
    }

    /** "SERVICE (1 .. 40 TICKS; 5 at first)". */
    private static void serviceAtFirst() {
        servedFor("SERVICE at first", new ModelSender(), 5);
    }

    private static void serviceLeast() {
        ModelSender x = new ModelSender();
        Due.is("SERVICE 0", x.gate(0, 20, 30), -2);
        Due.is("SERVICE 1", x.gate(1, 20, 30), 1);
        servedFor("SERVICE 1", x, 1);
    }

    private static void serviceGreatest() {
        ModelSender x = new ModelSender();
        Due.is("SERVICE 40", x.gate(40, 20, 30), 1);
        Due.is("SERVICE 41", x.gate(41, 20, 30), -2);
        servedFor("SERVICE 40", x, 40);
    }

    /** "ROOM (1 .. 60 letters that wait; 20)". */
    private static void roomAtFirst() {
        ModelSender x = new ModelSender();
        x.guests(1);
        x.stock(0, 10);
        x.stock(1, 10);
        x.pass(1);
        // The guest is served, 8 letters of each sender wait.
        Due.is("16 wait", x.ofGate(WAITING), 16);
        x.pass(1);
        // Guest 17, letters of sender 0 make 18 and 19, one of sender 1 makes 20, its other one is dropped.
        Due.is("20 wait", x.ofGate(WAITING), 20);
        Due.is("none of sender 0 is dropped", x.ofSender(0, 9), 0);
        Due.is("one of sender 1 is dropped", x.ofSender(1, 9), 1);
        Due.is("nine of it are on the way", x.ofSender(1, 1), 9);
    }

    private static void roomLeast() {
        ModelSender x = new ModelSender();
        Due.is("ROOM 0", x.gate(40, 0, 30), -2);
        Due.is("ROOM 1", x.gate(40, 1, 30), 1);
        x.stock(0, 2);
        x.pass(1);
        Due.is("one waits in ROOM 1", x.ofGate(WAITING), 1);
        Due.is("none is dropped", x.ofSender(0, 9), 0);
        x.stock(0, 1);
        x.pass(1);
        Due.is("still one waits", x.ofGate(WAITING), 1);
        Due.is("the third is dropped", x.ofSender(0, 9), 1);
    }

    private static void roomGreatest() {
        ModelSender x = new ModelSender();
        Due.is("ROOM 60", x.gate(40, 60, 30), 1);
        Due.is("ROOM 61", x.gate(40, 61, 30), -2);
        x.guests(1);
        // One is served from 0 and one from 40 on; those of 1 .. 61 less the latter make 60.
        Scenes.till(x, 62);
        Due.is("60 wait", x.ofGate(WAITING), 60);
        Due.is("none is dropped yet", x.ofGate(GUESTS_DROPPED), 0);
        x.pass(1);
        Due.is("60 wait still", x.ofGate(WAITING), 60);
        Due.is("the 61st is dropped", x.ofGate(GUESTS_DROPPED), 1);
        Due.is("60 waited at the most", x.ofGate(MOST), 60);
    }

    private static void answeredAfter(String what, ModelSender x, int ticks) {
        x.stock(0, 1);
        Due.is(what + ": no answer before " + ticks, Scenes.till(x, ticks), 0);
        Due.is(what + ": an answer at " + ticks, x.pass(1), 1);
        Due.is(what + ": no other", x.pass(400), 0);
    }

    /** "a DELAY (1 .. 200 TICKS; 30)". */
    private static void delayAtFirst() {
        answeredAfter("DELAY at first", new ModelSender(), 5 + 30);
    }

    private static void delayLeast() {
        ModelSender x = new ModelSender();
        Due.is("DELAY 0", x.gate(1, 20, 0), -2);
        Due.is("DELAY 1", x.gate(1, 20, 1), 1);
        answeredAfter("DELAY 1", x, 1 + 1);
    }

    private static void delayGreatest() {
        ModelSender x = new ModelSender();
        Due.is("DELAY 200", x.gate(1, 20, 200), 1);
        Due.is("DELAY 201", x.gate(1, 20, 201), -2);
        answeredAfter("DELAY 200", x, 1 + 200);
    }

    private static void guests() {
        noGuestsAtFirst();
        guestsEachTick();
        guestsEach200();
        noGuestsAgain();
        whatItWas();
    }

    /** "EVERY: 0 .. 200 TICKS between GUESTS (0 at first: none)". */
    private static void noGuestsAtFirst() {
        ModelSender x = new ModelSender();
        x.pass(401);
        Due.is("no guest was served", x.many(4), 0);
        Due.is("EVERY at first", x.guests(0), 0);
    }

    /** "If EVERY is above 0 and divides NOW, a GUEST's letter COMES": 1 divides each, and each number divides 0. */
    private static void guestsEachTick() {
        ModelSender x = new ModelSender();
        x.guests(1);
        x.pass(1);
        Due.is("the guest of tick 0 is served", x.ofGate(SERVED), 1);
        Due.is("and none waits", x.ofGate(WAITING), 0);
        x.pass(4);
        Due.is("those of 1 .. 4 wait", x.ofGate(WAITING), 4);
    }

    private static void guestsEach200() {
        ModelSender x = new ModelSender();
        x.guests(200);
        Scenes.till(x, 200);
        Due.is("the guest of tick 0", x.ofGate(GUESTS_LEFT), 1);
        Due.is("its ticks", x.many(4), 5);
        x.pass(1);
        Due.is("the guest of tick 200 is served", x.ofGate(SERVED), 1);
        Due.is("one tick more", x.many(4), 6);
        Scenes.till(x, 400);
        Due.is("none in between", x.ofGate(GUESTS_LEFT), 2);
        Due.is("ten ticks", x.many(4), 10);
        ModelSender y = new ModelSender();
        y.pass(1);
        y.guests(200);
        Scenes.till(y, 200);
        Due.is("none in 1 .. 199", y.many(4), 0);
        y.pass(1);
        Due.is("but at 200", y.many(4), 1);
    }

    private static void noGuestsAgain() {
        ModelSender x = new ModelSender();
        x.guests(5);
        x.pass(1);
        x.guests(0);
        x.pass(20);
        Due.is("one guest alone", x.ofGate(GUESTS_LEFT), 1);
        Due.is("none is served", x.ofGate(SERVED), 0);
    }

    /** "EVERY becomes v: what it was." */
    private static void whatItWas() {
        ModelSender x = new ModelSender();
        Due.is("was 0", x.guests(200), 0);
        Due.is("201 is outside", x.guests(201), -2);
        Due.is("was 200", x.guests(1), 200);
        Due.is("-1 is outside", x.guests(-1), -2);
        Due.is("was 1", x.guests(0), 1);
        Due.is("was 0 again", x.guests(0), 0);
    }

    private static void comingToTheGate() {
        servedAtOnce();
        lessThanRoomWait();
        roomIsFull();
        lessRoomThanWait();
        moreRoom();
    }

    /** "if none is served there, it is served at once, till NOW and SERVICE". */
    private static void servedAtOnce() {
        ModelSender x = new ModelSender();
        x.pass(3);
        x.stock(1, 1);
        x.pass(1);
        Due.is("served at 3", x.ofGate(SERVED), 1);
        Due.is("it does not wait", x.ofGate(WAITING), 0);
        Due.is("nor did it", x.ofGate(MOST), 0);
        Scenes.till(x, 8);
        Due.is("till 8", x.ofGate(LEFT_1), 0);
        x.pass(1);
        Due.is("it leaves at 8", x.ofGate(LEFT_1), 1);
    }

    /** "else, if less than ROOM wait, it waits". */
    private static void lessThanRoomWait() {
        ModelSender x = new ModelSender();
        x.gate(40, 3, 30);
        x.stock(0, 4);
        x.pass(1);
        Due.is("the third that waits", x.ofGate(WAITING), 3);
        Due.is("no LOSS", x.ofSender(0, 9), 0);
        Due.is("all are on the way", x.ofSender(0, 1), 4);
    }

    /** "else it is DROPPED". */
    private static void roomIsFull() {
        ModelSender x = new ModelSender();
        x.gate(40, 3, 30);
        x.stock(0, 5);
        x.pass(1);
        Due.is("three wait", x.ofGate(WAITING), 3);
        Due.is("the fifth is dropped", x.ofSender(0, 9), 1);
        Due.is("it is not on the way", x.ofSender(0, 1), 4);
        Due.is("it is sent though", x.ofSender(0, 12), 5);
        x.guests(1);
        x.pass(2);
        Due.is("guests are dropped too", x.ofGate(GUESTS_DROPPED), 2);
        Due.is("that is no LOSS", x.many(2), 1);
    }

    /** "SERVICE, ROOM, DELAY become these (those that wait stay)". */
    private static void lessRoomThanWait() {
        ModelSender x = new ModelSender();
        x.gate(10, 4, 30);
        x.guests(1);
        x.pass(5);
        Due.is("four wait", x.ofGate(WAITING), 4);
        x.gate(10, 2, 30);
        Due.is("they stay", x.ofGate(WAITING), 4);
        x.guests(0);
        // Served from 0, 10, 20: three wait behind 10, two behind 20, one behind 30.
        Scenes.till(x, 25);
        Due.is("two wait", x.ofGate(WAITING), 2);
        x.stock(0, 1);
        x.pass(1);
        Due.is("as many as ROOM: dropped", x.ofSender(0, 9), 1);
        Scenes.till(x, 31);
        Due.is("one waits", x.ofGate(WAITING), 1);
        x.stock(0, 1);
        x.pass(1);
        Due.is("less than ROOM: it waits", x.ofGate(WAITING), 2);
        Due.is("no other LOSS", x.ofSender(0, 9), 1);
    }

    private static void moreRoom() {
        ModelSender x = new ModelSender();
        x.gate(40, 1, 30);
        x.guests(1);
        x.pass(3);
        Due.is("one dropped", x.ofGate(GUESTS_DROPPED), 1);
        x.gate(40, 2, 30);
        x.pass(1);
        Due.is("two wait now", x.ofGate(WAITING), 2);
        x.pass(1);
        Due.is("the next is dropped", x.ofGate(GUESTS_DROPPED), 2);
    }

    private static void orderInATick() {
        answersBeforeSending();
        answersByNumbers();
        leavesBeforeAGuestComes();
        leavesBeforeOneIsSent();
        guestBeforeSenders();
        senderNoughtFirst();
        firstOfThoseThatWait();
        noneWaits();
        busyAtTheEndOfATick();
    }

    /** "(1) ANSWERS .. (4) SENDER 0 SENDS": an answer makes room in the window in the same tick. */
    private static void answersBeforeSending() {
        ModelSender x = Scenes.slow(5000);
        Scenes.till(x, 145);
        Due.is("four on the way, as WINDOW", x.ofSender(0, 1), x.ofSender(0, 6));
        Due.is("ten are sent", x.ofSender(0, 12), 10);
        x.pass(1);
        Due.is("the 11th", x.letter(0, 3, 0), 10);
        Due.is("is sent at 145", x.letter(0, 3, 1), 145);
    }

    /** "of each by the numbers of their LETTERS". */
    private static void answersByNumbers() {
        ModelSender x = Scenes.slow(5000);
        Scenes.till(x, 200);
        x.gate(20, 60, 25);
        x.pass(1);
        x.gate(20, 60, 5);
        // The 10th letter leaves at 200, the 11th at 220: both answers are due at 225.
        Due.is("none between", Scenes.till(x, 225), 0);
        Due.is("nine samples", x.sample(0, 9, 0), -1);
        Due.is("two at 225", x.pass(1), 2);
        Due.is("the 10th letter's ROUND", x.sample(0, 9, 0), 1);
        Due.is("its RATE: 10000 by 225", x.sample(0, 9, 1), 44);
        Due.is("the 11th letter's ROUND", x.sample(0, 10, 0), 2);
        Due.is("its RATE: 4000 by 80", x.sample(0, 10, 1), 50);
    }

    /** "(2) .. it LEAVES .. (3) .. a GUEST's letter COMES": the place is free by then. */
    private static void leavesBeforeAGuestComes() {
        ModelSender x = new ModelSender();
        x.gate(5, 1, 30);
        x.guests(5);
        x.stock(0, 1);
        x.pass(5);
        Due.is("the letter waits", x.ofGate(WAITING), 1);
        x.pass(1);
        Due.is("the guest of 5 waits", x.ofGate(WAITING), 1);
        Due.is("it is not dropped", x.ofGate(GUESTS_DROPPED), 0);
        Due.is("the guest of 0 left", x.ofGate(GUESTS_LEFT), 1);
    }

    /** "(2) .. it LEAVES .. (4) SENDER 0 SENDS". */
    private static void leavesBeforeOneIsSent() {
        ModelSender x = new ModelSender();
        x.gate(5, 1, 30);
        x.stock(0, 2);
        x.pass(5);
        x.stock(0, 1);
        x.pass(1);
        Due.is("no LOSS at 5", x.ofSender(0, 9), 0);
        Due.is("the third waits", x.ofGate(WAITING), 1);
    }

    /** "(3) .. a GUEST's letter COMES. (4) SENDER 0 SENDS". */
    private static void guestBeforeSenders() {
        ModelSender x = new ModelSender();
        x.gate(5, 1, 30);
        x.guests(200);
        x.stock(0, 2);
        x.pass(1);
        Due.is("one letter is dropped", x.ofSender(0, 9), 1);
        Due.is("no guest is", x.ofGate(GUESTS_DROPPED), 0);
        Scenes.till(x, 6);
        Due.is("the guest left first", x.ofGate(GUESTS_LEFT), 1);
        Due.is("not the letter", x.ofGate(LEFT_0), 0);
    }

    /** "(4) SENDER 0 SENDS, then SENDER 1". */
    private static void senderNoughtFirst() {
        ModelSender x = new ModelSender();
        x.gate(5, 1, 30);
        x.stock(1, 1);
        x.stock(0, 1);
        x.pass(6);
        Due.is("sender 0 was served first", x.ofGate(LEFT_0), 1);
        Due.is("sender 1 is served now", x.ofGate(LEFT_1), 0);
        x.pass(5);
        Due.is("and left", x.ofGate(LEFT_1), 1);
        ModelSender y = new ModelSender();
        y.gate(5, 1, 30);
        y.stock(1, 1);
        y.stock(0, 2);
        y.pass(1);
        Due.is("sender 0 took the ROOM", y.ofSender(0, 9), 0);
        Due.is("sender 1 lost its letter", y.ofSender(1, 9), 1);
    }

    /** "the first of those that wait, if any does, is served, till NOW and SERVICE". */
    private static void firstOfThoseThatWait() {
        ModelSender x = new ModelSender();
        x.gate(10, 5, 30);
        x.stock(1, 1);
        x.pass(1);
        x.stock(0, 1);
        x.guests(2);
        x.pass(1);
        x.guests(0);
        Due.is("the letter of 0 waits alone", x.ofGate(WAITING), 1);
        x.guests(1);
        x.pass(1);
        x.guests(0);
        x.stock(1, 1);
        x.pass(1);
        Due.is("three wait", x.ofGate(WAITING), 3);
        int[][] left = {{0, 1, 0}, {1, 1, 0}, {1, 1, 1}, {1, 2, 1}};
        for (int i = 0; i < 4; i++) {
            Scenes.till(x, 10 * i + 11);
            Due.is("left of 0 at " + (10 * i + 10), x.ofGate(LEFT_0), left[i][0]);
            Due.is("left of 1 at " + (10 * i + 10), x.ofGate(LEFT_1), left[i][1]);
            Due.is("guests left at " + (10 * i + 10), x.ofGate(GUESTS_LEFT), left[i][2]);
        }
    }

    private static void noneWaits() {
        ModelSender x = new ModelSender();
        x.stock(0, 1);
        x.pass(6);
        Due.is("none is served", x.ofGate(SERVED), 0);
        Due.is("none waits", x.ofGate(WAITING), 0);
        x.stock(0, 1);
        x.pass(1);
        Due.is("the next is served at once", x.ofGate(SERVED), 1);
    }

    /** "(5) The TICK is BUSY, if a letter is served now; NOW is 1 more." */
    private static void busyAtTheEndOfATick() {
        ModelSender x = new ModelSender();
        x.pass(1);
        Due.is("an empty tick", x.many(4), 0);
        x.stock(0, 1);
        x.pass(1);
        Due.is("the tick in which it comes", x.many(4), 1);
        x.pass(4);
        Due.is("till it leaves", x.many(4), 5);
        x.pass(1);
        Due.is("not the tick in which it leaves", x.many(4), 5);
        Due.is("NOW", x.many(0), 7);
        ModelSender y = new ModelSender();
        y.guests(5);
        y.pass(6);
        Due.is("one leaves, one comes: busy", y.many(4), 6);
    }

    private static void laterOnesAlone() {
        theOneServedStays();
        thoseThatWaitHaveTheNewService();
        theOneThatLeftStays();
        theOneThatLeavesHasTheNewDelay();
    }

    /** "till when a letter is served, stays as it was when .. the other began to be served". */
    private static void theOneServedStays() {
        ModelSender x = new ModelSender();
        x.stock(0, 1);
        x.pass(1);
        x.gate(1, 20, 30);
        x.pass(4);
        Due.is("not sooner", x.ofGate(LEFT_0), 0);
        x.pass(1);
        Due.is("at 5", x.ofGate(LEFT_0), 1);
        ModelSender y = new ModelSender();
        y.stock(0, 1);
        y.pass(5);
        y.gate(40, 20, 30);
        y.pass(1);
        Due.is("not later", y.ofGate(LEFT_0), 1);
    }

    /** "another DELAY, SERVICE holds for later ones". */
    private static void thoseThatWaitHaveTheNewService() {
        ModelSender x = new ModelSender();
        x.stock(0, 2);
        x.pass(5);
        x.gate(40, 20, 30);
        Scenes.till(x, 45);
        Due.is("the second is served from 5 on", x.ofGate(LEFT_0), 1);
        x.pass(1);
        Due.is("till 45", x.ofGate(LEFT_0), 2);
    }

    /** "When an ANSWER is due .. stays as it was when the one LEFT". */
    private static void theOneThatLeftStays() {
        ModelSender x = new ModelSender();
        x.stock(0, 1);
        x.pass(6);
        x.gate(5, 20, 1);
        Due.is("not sooner", Scenes.till(x, 35), 0);
        x.gate(5, 20, 200);
        Due.is("not later", x.pass(1), 1);
    }

    private static void theOneThatLeavesHasTheNewDelay() {
        ModelSender x = new ModelSender();
        x.stock(0, 1);
        x.pass(5);
        x.gate(5, 20, 1);
        Due.is("it leaves at 5", x.pass(1), 0);
        Due.is("the answer is at 6", x.pass(1), 1);
    }

    private static void stocks() {
        stockAtOnce();
        stockToTheBrim();
        stockAsLettersAreSent();
        stocksOfTheirOwn();
    }

    /** "STOCK of a SENDER becomes n more (1 .. 5000): how much it is." */
    private static void stockAtOnce() {
        ModelSender x = new ModelSender();
        Due.is("0", x.stock(0, 0), -2);
        Due.is("1", x.stock(0, 1), 1);
        Due.is("5000", x.stock(0, 5000), 5001);
        Due.is("5001", x.stock(0, 5001), -2);
        Due.is("it is 5001", x.ofSender(0, 10), 5001);
    }

    /** "FULL: it would be above 100000." */
    private static void stockToTheBrim() {
        ModelSender x = new ModelSender();
        for (int i = 1; i <= 20; i++) Due.is("5000 times " + i, x.stock(1, 5000), 5000 * i);
        Due.is("one more", x.stock(1, 1), -4);
        Due.is("5000 more", x.stock(1, 5000), -4);
        Due.is("it is 100000", x.ofSender(1, 10), 100000);
        ModelSender y = new ModelSender();
        for (int i = 1; i <= 19; i++) y.stock(0, 5000);
        y.stock(0, 1);
        Due.is("100001 in all", y.stock(0, 5000), -4);
        Due.is("100000 in all", y.stock(0, 4999), 100000);
    }

    private static void stockAsLettersAreSent() {
        ModelSender x = new ModelSender();
        for (int i = 1; i <= 20; i++) x.stock(0, 5000);
        x.pass(1);
        Due.is("eight are sent", x.ofSender(0, 10), 99992);
        Due.is("nine do not fit", x.stock(0, 9), -4);
        Due.is("eight do", x.stock(0, 8), 100000);
    }

    private static void stocksOfTheirOwn() {
        ModelSender x = new ModelSender();
        for (int i = 1; i <= 20; i++) x.stock(0, 5000);
        Due.is("the other has room", x.stock(1, 1), 1);
        Due.is("the first has not", x.stock(0, 1), -4);
    }

    private static void passing() {
        ticksAtOnce();
        answersOfTheseTicks();
    }

    /** "So many TICKS (1 .. 2000)". */
    private static void ticksAtOnce() {
        ModelSender x = new ModelSender();
        Due.is("0", x.pass(0), -2);
        Due.is("NOW is 0", x.many(0), 0);
        Due.is("1", x.pass(1), 0);
        Due.is("NOW is 1", x.many(0), 1);
        Due.is("2000", x.pass(2000), 0);
        Due.is("NOW is 2001", x.many(0), 2001);
        Due.is("2001", x.pass(2001), -2);
        Due.is("NOW is 2001 still", x.many(0), 2001);
    }

    /** "how many ANSWERS were TAKEN": in these ticks, of both senders. */
    private static void answersOfTheseTicks() {
        ModelSender x = new ModelSender();
        x.stock(0, 2);
        x.stock(1, 1);
        Due.is("none before 35", x.pass(35), 0);
        Due.is("one at 35", x.pass(1), 1);
        Due.is("two at 40 and 45", x.pass(10), 2);
        Due.is("none later", x.pass(2000), 0);
        Due.is("of 0", x.ofSender(0, 2), 2);
        Due.is("of 1", x.ofSender(1, 2), 1);
        Due.is("of both", x.many(1), 3);
    }

    private static void asking() {
        mostAtOnceStays();
        thoseThatLeft();
        guestsAlone();
        shareOfNoTicks();
        shareOfNone();
        shareOfAll();
        shareInLeastTerms();
    }

    /** "6 how many waited at the most at once". */
    private static void mostAtOnceStays() {
        ModelSender x = new ModelSender();
        x.stock(0, 3);
        x.pass(1);
        Due.is("two wait", x.ofGate(MOST), 2);
        x.pass(20);
        Due.is("none waits", x.ofGate(WAITING), 0);
        Due.is("two did", x.ofGate(MOST), 2);
        // BEST is 0 as no answer came yet, so 8 more fit the tick, and 7 the WINDOW of 10.
        x.stock(0, 2);
        x.pass(1);
        Due.is("one waits", x.ofGate(WAITING), 1);
        Due.is("two did before", x.ofGate(MOST), 2);
        x.stock(0, 1);
        x.pass(1);
        Due.is("two again", x.ofGate(MOST), 2);
        x.stock(0, 1);
        x.pass(1);
        Due.is("three now", x.ofGate(MOST), 3);
    }

    /** "2, 3 how many of SENDER 0, 1 LEFT": neither those that wait nor those served nor those dropped. */
    private static void thoseThatLeft() {
        ModelSender x = new ModelSender();
        x.gate(5, 1, 30);
        x.stock(0, 3);
        x.pass(5);
        Due.is("none left", x.ofGate(LEFT_0), 0);
        x.pass(1);
        Due.is("one left", x.ofGate(LEFT_0), 1);
        x.pass(50);
        Due.is("two left, one was dropped", x.ofGate(LEFT_0), 2);
        Due.is("none of the other", x.ofGate(LEFT_1), 0);
        Due.is("no guest", x.ofGate(GUESTS_LEFT), 0);
    }

    /** "4 how many GUESTS LEFT, 5 were DROPPED". */
    private static void guestsAlone() {
        ModelSender x = new ModelSender();
        x.gate(5, 1, 30);
        x.guests(2);
        x.stock(0, 2);
        x.pass(5);
        // The guest of 0 is served, a letter waits, a letter is dropped; the guests of 2 and 4 are dropped.
        Due.is("guests dropped", x.ofGate(GUESTS_DROPPED), 2);
        Due.is("letters dropped", x.many(2), 1);
        Due.is("none left", x.ofGate(GUESTS_LEFT), 0);
        x.pass(1);
        Due.is("one left", x.ofGate(GUESTS_LEFT), 1);
    }

    /** "0 of 1, if NOW is 0". */
    private static void shareOfNoTicks() {
        ModelSender x = new ModelSender();
        x.stock(0, 1);
        Due.is("upper", x.busy(0), 0);
        Due.is("lower", x.busy(1), 1);
    }

    private static void shareOfNone() {
        ModelSender x = new ModelSender();
        x.pass(12);
        Due.is("none of 12, upper", x.busy(0), 0);
        Due.is("none of 12, lower", x.busy(1), 1);
    }

    private static void shareOfAll() {
        ModelSender x = new ModelSender();
        x.stock(0, 1);
        x.pass(1);
        Due.is("1 of 1, upper", x.busy(0), 1);
        Due.is("1 of 1, lower", x.busy(1), 1);
        x.pass(4);
        Due.is("5 of 5, upper", x.busy(0), 1);
        Due.is("5 of 5, lower", x.busy(1), 1);
    }

    /** "The share of TICKS that were BUSY, in least terms". */
    private static void shareInLeastTerms() {
        ModelSender x = new ModelSender();
        x.stock(0, 2);
        x.pass(12);
        Due.is("10 of 12, upper", x.busy(0), 5);
        Due.is("10 of 12, lower", x.busy(1), 6);
        x.pass(1);
        Due.is("10 of 13, upper", x.busy(0), 10);
        Due.is("10 of 13, lower", x.busy(1), 13);
        x.pass(7);
        Due.is("10 of 20, upper", x.busy(0), 1);
        Due.is("10 of 20, lower", x.busy(1), 2);
    }
}
