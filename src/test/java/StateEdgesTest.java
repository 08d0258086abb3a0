/** Section 3, promises 12 to 15: each sentence that names an edge has a test of its own; what is due is reckoned by hand. */
public final class StateEdgesTest {
    private static final int STATE = 0, ON_WAY = 1, BEST = 3, LEAST = 4, PRODUCT = 5, GAIN = 7, ROUNDS = 8, LOSSES = 9;
    private static final int FULL = 0, TOP = 1, FLAT = 2, SINCE_LEAST = 3, TO_END = 4;
    private static final int START = 0, DRAIN = 1, CRUISE = 2, PROBE = 3;

    public static void main(String[] args) {
        atFirst();
        start();
        drain();
        late();
        phaseNought();
        phaseOne();
        phasesInTurn();
        probe();
        stale();
        turns();
        asking();
        Due.end();
    }

    private static void inPhase(String what, ModelSender x, int phase, int since) {
        Due.is(what + ": CRUISE", x.ofSender(0, STATE), CRUISE);
        Due.is(what + ": PHASE", x.phase(0, 0), phase);
        Due.is(what + ": since", x.many(0) - x.phase(0, 1), since);
    }

    /** "0 START (at first)"; "FULL is no at first, TOP 0, FLAT 0". */
    private static void atFirst() {
        ModelSender x = new ModelSender();
        for (int s = 0; s <= 1; s++) {
            Due.is("START", x.ofSender(s, STATE), START);
            Due.is("GAIN", x.ofSender(s, GAIN), 289);
            Due.is("FULL", x.model(s, FULL), 0);
            Due.is("TOP", x.model(s, TOP), 0);
            Due.is("FLAT", x.model(s, FLAT), 0);
            Due.is("no END", x.model(s, TO_END), -9);
            Due.is("no PHASE", x.phase(s, 0), -9);
            Due.is("no TURN", x.turn(s, 0, 0), -1);
        }
    }

    private static void start() {
        firstTop();
        noRoundBegan();
        letterIsLimited();
        justAQuarterMore();
        oneLessThanAQuarterMore();
        halfLessThanAQuarterMore();
        bestAndTopAreNought();
        flatBecomesNought();
        flatIsTwo();
        flatIsThree();
    }

    /** "(a) In START, if a ROUND began with it .. if 100 times BEST is no less than 125 times TOP, TOP becomes BEST". */
    private static void firstTop() {
        ModelSender x = Scenes.slow(5000);
        Scenes.till(x, 25);
        Due.is("TOP before the first answer", x.model(0, TOP), 0);
        x.pass(1);
        Due.is("TOP with it", x.model(0, TOP), 40);
        Due.is("FLAT", x.model(0, FLAT), 0);
    }

    private static void noRoundBegan() {
        ModelSender x = Scenes.slow(5000);
        Scenes.till(x, 206);
        Due.is("ten answers, one ROUND", x.ofSender(0, ROUNDS), 1);
        Due.is("BEST rose", x.ofSender(0, BEST), 48);
        Due.is("TOP stays", x.model(0, TOP), 40);
        Due.is("FLAT stays", x.model(0, FLAT), 0);
    }

    /** "and its LETTER is not LIMITED". */
    private static void letterIsLimited() {
        ModelSender x = new ModelSender();
        x.pass(1);
        Due.is("one answer", Scenes.sendAt(x, 1, 37), 1);
        Due.is("BEST", x.ofSender(0, BEST), 28);
        Due.is("a ROUND began", x.ofSender(0, ROUNDS), 1);
        Due.is("TOP stays", x.model(0, TOP), 0);
        ModelSender y = new ModelSender();
        Scenes.sendAt(y, 0, 36);
        Due.is("TOP of one that is not", y.model(0, TOP), 28);
        Scenes.sendAt(y, 100, 136);
        Due.is("two ROUNDS", y.ofSender(0, ROUNDS), 2);
        Due.is("BEST is no more", y.ofSender(0, BEST), 28);
        Due.is("FLAT stays", y.model(0, FLAT), 0);
    }

    private static void justAQuarterMore() {
        ModelSender x = Scenes.slow(5000);
        Scenes.till(x, 226);
        // 100 times 50 is 125 times 40.
        Due.is("ROUND 2", x.ofSender(0, ROUNDS), 2);
        Due.is("TOP becomes BEST", x.model(0, TOP), 50);
        Due.is("FLAT", x.model(0, FLAT), 0);
    }

    private static void oneLessThanAQuarterMore() {
        ModelSender x = Scenes.slow(5000);
        Scenes.till(x, 210);
        x.gate(20, 60, 6);
        Scenes.till(x, 227);
        // The answer comes at 226: 4000 by 81.
        Due.is("ROUND 2", x.ofSender(0, ROUNDS), 2);
        Due.is("BEST", x.ofSender(0, BEST), 49);
        Due.is("TOP stays", x.model(0, TOP), 40);
        Due.is("FLAT is 1 more", x.model(0, FLAT), 1);
    }

    private static void halfLessThanAQuarterMore() {
        ModelSender x = new ModelSender();
        x.gate(16, 60, 4);
        x.stock(0, 5000);
        // As in the slow scene: answers at 20, 36, 52 and so on; the 11th letter is sent at 116 and answered at 180, 4000 by 64.
        Scenes.till(x, 181);
        Due.is("ROUND 2", x.ofSender(0, ROUNDS), 2);
        Due.is("BEST", x.ofSender(0, BEST), 62);
        // 6200 is less than 125 times 50.
        Due.is("TOP stays", x.model(0, TOP), 50);
        Due.is("FLAT is 1 more", x.model(0, FLAT), 1);
    }

    /** 100 times 0 is no less than 125 times 0. */
    private static void bestAndTopAreNought() {
        ModelSender x = new ModelSender();
        x.gate(40, 48, 200);
        x.guests(1);
        Scenes.till(x, 60);
        Due.is("guests alone fill the ROOM", x.ofGate(0), 48);
        x.gate(40, 51, 200);
        x.stock(0, 5000);
        // At 60 a guest and two letters find a place, LIMITED; then one letter is dropped in each TICK, so STOCK is not 0.
        // Behind the one served till 80 and 49 more they leave at 2080 and 2120: 1000 by 2220 and 2000 by 2260 are 0.
        Due.is("both answers", Scenes.till(x, 2330), 2);
        Due.is("LIMIT 1 is passed", x.ofSender(0, 11), 0);
        x.gate(40, 53, 200);
        x.stock(0, 5000);
        x.pass(1);
        Due.is("one letter found a place", x.letter(0, 0, 1), 2330);
        Due.is("it is not LIMITED", x.letter(0, 0, 2), 0);
        // Behind the one served till 2360 and 52 more it leaves at 4480.
        Due.is("no answer before 4680", Scenes.till(x, 4680), 0);
        Due.is("its answer", x.pass(1), 1);
        Due.is("ROUND 2", x.ofSender(0, ROUNDS), 2);
        Due.is("BEST", x.ofSender(0, BEST), 0);
        Due.is("TOP", x.model(0, TOP), 0);
        Due.is("FLAT", x.model(0, FLAT), 0);
    }

    /** "TOP becomes BEST, FLAT 0". */
    private static void flatBecomesNought() {
        ModelSender x = Scenes.slow(5000);
        Scenes.till(x, 386);
        Due.is("FLAT 2", x.model(0, FLAT), 2);
        x.gate(10, 60, 5);
        // Answers at 405, 415, 425, 435: the last begins ROUND 5, 4000 by 50.
        Scenes.till(x, 436);
        Due.is("ROUND 5", x.ofSender(0, ROUNDS), 5);
        Due.is("TOP", x.model(0, TOP), 80);
        Due.is("FLAT 0", x.model(0, FLAT), 0);
        Due.is("START", x.ofSender(0, STATE), START);
    }

    /** "else FLAT is 1 more; if it is 3 then, FULL is yes". */
    private static void flatIsTwo() {
        ModelSender x = Scenes.slow(5000);
        Scenes.till(x, 305);
        Due.is("FLAT before ROUND 3", x.model(0, FLAT), 0);
        x.pass(1);
        Due.is("FLAT in ROUND 3", x.model(0, FLAT), 1);
        Scenes.till(x, 465);
        Due.is("FLAT in ROUND 4", x.model(0, FLAT), 2);
        Due.is("FULL is no", x.model(0, FULL), 0);
        Due.is("START", x.ofSender(0, STATE), START);
        Due.is("no TURN", x.many(3), 0);
    }

    /** "(b) In START, if FULL is yes: DRAIN." */
    private static void flatIsThree() {
        ModelSender x = Scenes.slow(5000);
        Scenes.till(x, 466);
        Due.is("FLAT", x.model(0, FLAT), 3);
        Due.is("FULL is yes", x.model(0, FULL), 1);
        Due.is("DRAIN", x.ofSender(0, STATE), DRAIN);
        Due.is("GAIN", x.ofSender(0, GAIN), 35);
        Due.is("one TURN", x.many(3), 1);
        Scenes.till(x, 900);
        Due.is("FLAT stays behind START", x.model(0, FLAT), 3);
        Due.is("TOP stays behind START", x.model(0, TOP), 50);
    }

    private static void drain() {
        asManyAsProduct();
        oneMoreThanProduct();
        fewerThanProduct();
        drainStays();
    }

    private static void turnIs(ModelSender x, int k, int tick, int state) {
        Due.is("TICK of TURN " + k, x.turn(0, k, 0), tick);
        Due.is("STATE of TURN " + k, x.turn(0, k, 1), state);
    }

    /** "(c) In DRAIN, if no more than PRODUCT are ON THE WAY: CRUISE, in PHASE 2, since NOW": one after another. */
    private static void asManyAsProduct() {
        ModelSender x = Scenes.slow(24);
        Scenes.till(x, 466);
        Due.is("one on the way", x.ofSender(0, ON_WAY), 1);
        Due.is("PRODUCT", x.ofSender(0, PRODUCT), 1);
        inPhase("at once", x, 2, 465);
        turnIs(x, 0, 465, DRAIN);
        turnIs(x, 1, 465, CRUISE);
        Due.is("two TURNS", x.many(3), 2);
    }

    private static void oneMoreThanProduct() {
        ModelSender x = Scenes.slow(25);
        Scenes.till(x, 466);
        Due.is("two on the way", x.ofSender(0, ON_WAY), 2);
        Due.is("DRAIN", x.ofSender(0, STATE), DRAIN);
        Scenes.till(x, 485);
        Due.is("DRAIN till the next answer", x.ofSender(0, STATE), DRAIN);
        x.pass(1);
        inPhase("with one on the way", x, 2, 485);
    }

    private static void fewerThanProduct() {
        ModelSender x = Scenes.slow(23);
        Scenes.till(x, 466);
        Due.is("none on the way", x.ofSender(0, ON_WAY), 0);
        inPhase("at once", x, 2, 465);
    }

    private static void drainStays() {
        ModelSender x = Scenes.middle(5000);
        Scenes.till(x, 521);
        // The answers of 510 and 520 leave 5 on the way, and PRODUCT is 4.
        Due.is("five on the way", x.ofSender(0, ON_WAY), 5);
        Due.is("DRAIN", x.ofSender(0, STATE), DRAIN);
        Scenes.till(x, 531);
        Due.is("four on the way", x.ofSender(0, ON_WAY), 4);
        inPhase("with the answer of 530", x, 2, 530);
    }

    private static void late() {
        oneTickBeforeLate();
        justLate();
    }

    /** "(d) In CRUISE, LATE: NOW less since when is LEAST or more .. in others, if it is LATE: the next PHASE". */
    private static void oneTickBeforeLate() {
        ModelSender x = Scenes.slow(24);
        Scenes.till(x, 470);
        x.gate(20, 60, 9);
        // The last letter leaves at 480; LEAST is 25, PHASE 2 is since 465.
        Due.is("an answer at 489", Scenes.till(x, 490), 1);
        inPhase("24 TICKS", x, 2, 465);
    }

    private static void justLate() {
        ModelSender x = Scenes.slow(24);
        Scenes.till(x, 470);
        x.gate(20, 60, 10);
        Due.is("no answer before 490", Scenes.till(x, 490), 0);
        Due.is("an answer at 490", x.pass(1), 1);
        Due.is("LEAST", x.ofSender(0, LEAST), 25);
        inPhase("25 TICKS", x, 3, 490);
    }

    private static void phaseNought() {
        lateAndEnoughOnTheWay();
        lateAndTooFewOnTheWay();
        lateAndNoneOnTheWay();
        enoughOnTheWayButNotLate();
        lateAndALoss();
        lossBeforeThePhase();
        lossOfTheOtherSender();
        lossInTheTickOfThePhase();
        lossInTheTickBefore();
        lossButNotLate();
    }

    /** "In PHASE 0, if it is LATE, and 4 times ON THE WAY is no less than 5 times PRODUCT". */
    private static void lateAndEnoughOnTheWay() {
        ModelSender x = Scenes.middle(5000);
        Scenes.till(x, 1446);
        inPhase("before the answer", x, 0, 1406);
        Due.is("six on the way", x.ofSender(0, ON_WAY), 6);
        x.pass(1);
        // 40 TICKS, as LEAST; 4 times 5 is 5 times 4.
        Due.is("five on the way", x.ofSender(0, ON_WAY), 5);
        Due.is("PRODUCT", x.ofSender(0, PRODUCT), 4);
        inPhase("with it", x, 1, 1446);
        Due.is("GAIN", x.ofSender(0, GAIN), 75);
    }

    private static void lateAndTooFewOnTheWay() {
        ModelSender x = Scenes.middle(145);
        // The last one is sent at 1432: 4 are left at 1446.
        Due.is("answers till 1446", Scenes.till(x, 1447), 141);
        Due.is("four on the way", x.ofSender(0, ON_WAY), 4);
        Due.is("PRODUCT", x.ofSender(0, PRODUCT), 4);
        inPhase("16 is less than 20", x, 0, 1406);
        Due.is("GAIN", x.ofSender(0, GAIN), 125);
    }

    private static void lateAndNoneOnTheWay() {
        ModelSender x = Scenes.cruising(6);
        Due.is("an answer at 725", Scenes.sendAt(x, 700, 726), 1);
        inPhase("it stays", x, 0, 621);
    }

    private static void enoughOnTheWayButNotLate() {
        ModelSender x = Scenes.middle(5000);
        Scenes.till(x, 1437);
        Due.is("five on the way", x.ofSender(0, ON_WAY), 5);
        inPhase("30 TICKS", x, 0, 1406);
    }

    /** As NOW is so: the gate is full two TICKS later, and a letter of the sender is dropped then. It is free 41 TICKS later. */
    private static void lose(ModelSender x, int s) {
        x.gate(40, 1, 24);
        x.guests(1);
        x.pass(2);
        x.stock(s, 1);
        int before = x.ofSender(s, LOSSES);
        x.pass(1);
        Due.is("a LOSS", x.ofSender(s, LOSSES), before + 1);
        x.guests(0);
        x.gate(1, 60, 24);
    }

    /** "or there was a LOSS since then". */
    private static void lateAndALoss() {
        ModelSender x = Scenes.cruising(6);
        lose(x, 0);
        Due.is("an answer at 725", Scenes.sendAt(x, 700, 726), 1);
        Due.is("none on the way", x.ofSender(0, ON_WAY), 0);
        inPhase("for the LOSS", x, 1, 725);
    }

    private static void lossBeforeThePhase() {
        ModelSender x = Scenes.cruising(5);
        inPhase("before", x, 7, 595);
        lose(x, 0);
        Due.is("an answer at 725", Scenes.sendAt(x, 700, 726), 1);
        inPhase("PHASE 0 begins", x, 0, 725);
        Due.is("an answer at 825", Scenes.sendAt(x, 800, 826), 1);
        inPhase("no LOSS since then", x, 0, 725);
    }

    private static void lossOfTheOtherSender() {
        ModelSender x = Scenes.cruising(6);
        lose(x, 1);
        Due.is("an answer at 725", Scenes.sendAt(x, 700, 726), 1);
        inPhase("it is not of this SENDER", x, 0, 621);
    }

    /** A letter sent at 596 is answered at 621: PHASE 0. The gate is full from 601 on; one more comes at the tick and is dropped. */
    private static ModelSender lossAt(int tick) {
        ModelSender x = Scenes.cruising(5);
        x.stock(0, 1);
        Scenes.till(x, 600);
        x.gate(40, 1, 24);
        x.guests(1);
        Scenes.till(x, tick);
        x.stock(0, 1);
        x.pass(1);
        Due.is("a LOSS at " + tick, x.ofSender(0, LOSSES), 1);
        Scenes.till(x, 622);
        x.guests(0);
        x.gate(1, 60, 24);
        inPhase("PHASE 0", x, 0, 621);
        Due.is("an answer at 725", Scenes.sendAt(x, 700, 726), 1);
        return x;
    }

    private static void lossInTheTickOfThePhase() {
        // Answers are taken before letters are sent, so this one is lost behind the begin of the phase.
        inPhase("LOSS at 621", lossAt(621), 1, 725);
    }

    private static void lossInTheTickBefore() {
        inPhase("LOSS at 620", lossAt(620), 0, 621);
    }

    private static void lossButNotLate() {
        ModelSender x = Scenes.cruising(5);
        x.stock(0, 2);
        // Sent at 596 and 616, answered at 621 and 641.
        Scenes.till(x, 625);
        inPhase("PHASE 0", x, 0, 621);
        x.gate(40, 1, 24);
        x.guests(1);
        Scenes.till(x, 636);
        x.stock(0, 1);
        x.pass(1);
        Due.is("a LOSS at 636", x.ofSender(0, LOSSES), 1);
        x.guests(0);
        x.gate(1, 60, 24);
        Due.is("an answer at 641", Scenes.till(x, 642), 1);
        inPhase("20 TICKS", x, 0, 621);
        Due.is("an answer at 725", Scenes.sendAt(x, 700, 726), 1);
        inPhase("LATE", x, 1, 725);
    }

    private static void phaseOne() {
        downToProduct();
        notDownToProduct();
        lateThough();
    }

    /** "in PHASE 1, if it is LATE or no more than PRODUCT are ON THE WAY". */
    private static void downToProduct() {
        ModelSender x = Scenes.cruising(6);
        x.gate(1, 60, 40);
        x.stock(0, 3);
        // Sent at 622, 638, 654; answered at 663, 679, 695.
        Scenes.till(x, 664);
        inPhase("two on the way: 8 is no less than 5", x, 1, 663);
        Scenes.till(x, 680);
        Due.is("one on the way", x.ofSender(0, ON_WAY), 1);
        inPhase("as many as PRODUCT, 16 TICKS", x, 2, 679);
    }

    private static void notDownToProduct() {
        ModelSender x = Scenes.cruising(6);
        x.gate(1, 60, 40);
        x.stock(0, 4);
        // The fourth is sent at 670.
        Scenes.till(x, 680);
        Due.is("two on the way", x.ofSender(0, ON_WAY), 2);
        inPhase("more than PRODUCT, 16 TICKS", x, 1, 663);
    }

    private static void lateThough() {
        ModelSender x = Scenes.cruising(6);
        x.gate(1, 60, 60);
        x.stock(0, 9);
        // Sent at 622, 638, 654, 670, 686, 713; answered at 683, 699, 715 and later.
        Scenes.till(x, 684);
        inPhase("three on the way", x, 1, 683);
        Scenes.till(x, 700);
        Due.is("three on the way at 699", x.ofSender(0, ON_WAY), 3);
        inPhase("16 TICKS", x, 1, 683);
        Scenes.till(x, 716);
        Due.is("three on the way at 715", x.ofSender(0, ON_WAY), 3);
        inPhase("32 TICKS", x, 2, 715);
    }

    /** "the next PHASE (0 behind 7), since NOW"; "GAIN: .. 125 in 0, 75 in 1, 100 in 2 to 7". */
    private static void phasesInTurn() {
        int[] phases = {2, 3, 4, 5, 6, 7, 0};
        int[] gains = {100, 100, 100, 100, 100, 100, 125};
        for (int i = 0; i < phases.length; i++) {
            ModelSender x = Scenes.cruising(i);
            inPhase(i + " phases on", x, phases[i], 465 + 26 * i);
            Due.is("GAIN", x.ofSender(0, GAIN), gains[i]);
            Due.is("a PHASE is no TURN", x.many(3), 2);
        }
        ModelSender y = Scenes.middle(5000);
        Scenes.till(y, 1406);
        inPhase("before the answer at 1406", y, 7, 1366);
        y.pass(1);
        inPhase("0 behind 7", y, 0, 1406);
    }

    private static void probe() {
        fiveOnTheWay();
        fourOnTheWay();
        beforeTheEnd();
        atTheEnd();
        leastAtBecomesNow();
        cruiseBehindProbe();
        endIsNoneAnew();
    }

    /** NOW is 1137: eight letters at 1100, answered from 1136 on, 5 TICKS each; the first was STALE: PROBE with 7 on the way. */
    private static ModelSender crowdedProbe() {
        ModelSender x = Scenes.forgetful(11);
        Scenes.till(x, 1100);
        x.stock(0, 8);
        Due.is("one answer", Scenes.till(x, 1137), 1);
        Due.is("PROBE", x.ofSender(0, STATE), PROBE);
        Due.is("seven on the way", x.ofSender(0, ON_WAY), 7);
        Due.is("no END", x.model(0, TO_END), -9);
        return x;
    }

    /** "(e) In PROBE: if it has no END, and no more than 4 are ON THE WAY, END becomes NOW and 200". */
    private static void fiveOnTheWay() {
        ModelSender x = crowdedProbe();
        Scenes.till(x, 1151);
        Due.is("five on the way", x.ofSender(0, ON_WAY), 5);
        Due.is("no END", x.model(0, TO_END), -9);
    }

    private static void fourOnTheWay() {
        ModelSender x = crowdedProbe();
        Scenes.till(x, 1152);
        Due.is("four on the way", x.ofSender(0, ON_WAY), 4);
        Due.is("END is 1351", x.model(0, TO_END), 199);
        Scenes.till(x, 1172);
        Due.is("none on the way", x.ofSender(0, ON_WAY), 0);
        Due.is("END stays", x.model(0, TO_END), 179);
    }

    /** "else, if it has an END and NOW is no less than that". */
    private static void beforeTheEnd() {
        ModelSender x = crowdedProbe();
        Due.is("seven answers, and one at 1350", Scenes.till(x, 1314) + Scenes.sendAt(x, 1314, 1351), 8);
        Due.is("PROBE", x.ofSender(0, STATE), PROBE);
        Due.is("END is NOW", x.model(0, TO_END), 0);
        x.pass(1);
        Due.is("END itself changes nothing", x.ofSender(0, STATE), PROBE);
        Due.is("END is past", x.model(0, TO_END), 0);
    }

    private static void atTheEnd() {
        ModelSender x = crowdedProbe();
        Due.is("seven answers, and none yet", Scenes.till(x, 1315) + Scenes.sendAt(x, 1315, 1351), 7);
        Due.is("PROBE", x.ofSender(0, STATE), PROBE);
        Due.is("one at 1351", x.pass(1), 1);
        // ".. CRUISE .. if FULL is yes, else START."
        Due.is("START, as FULL is no", x.ofSender(0, STATE), START);
        Due.is("END is none", x.model(0, TO_END), -9);
        turnIs(x, 0, 1136, PROBE);
        turnIs(x, 1, 1351, START);
        Due.is("two TURNS", x.many(3), 2);
    }

    /** "LEAST AT becomes NOW". */
    private static void leastAtBecomesNow() {
        ModelSender x = crowdedProbe();
        Scenes.till(x, 1314);
        Due.is("LEAST AT is 1136", x.model(0, SINCE_LEAST), 1314 - 1136);
        x.gate(5, 20, 32);
        // 37 TICKS, and LEAST is 36.
        Due.is("an answer at 1351", Scenes.sendAt(x, 1314, 1352), 1);
        Due.is("START", x.ofSender(0, STATE), START);
        Due.is("LEAST stays", x.ofSender(0, LEAST), 36);
        Due.is("LEAST AT is 1351", x.model(0, SINCE_LEAST), 1);
    }

    /** "CRUISE, in PHASE 2, since NOW, if FULL is yes". */
    private static void cruiseBehindProbe() {
        ModelSender x = Scenes.cruising(1);
        inPhase("before", x, 3, 491);
        Due.is("STALE at 1625", Scenes.sendAt(x, 1600, 1626), 1);
        Due.is("PROBE", x.ofSender(0, STATE), PROBE);
        Due.is("an answer at 1725", Scenes.sendAt(x, 1700, 1726), 1);
        Due.is("END is 1925", x.model(0, TO_END), 199);
        Due.is("an answer at 1925", Scenes.sendAt(x, 1900, 1926), 1);
        inPhase("behind PROBE", x, 2, 1925);
        Due.is("GAIN", x.ofSender(0, GAIN), 100);
    }

    /** "(f) .. PROBE, without an END." */
    private static void endIsNoneAnew() {
        ModelSender x = crowdedProbe();
        Scenes.sendAt(x, 1400, 1437);
        Due.is("START", x.ofSender(0, STATE), START);
        Due.is("one answer", Scenes.sendAt(x, 3000, 3037), 1);
        Due.is("PROBE again", x.ofSender(0, STATE), PROBE);
        Due.is("no END", x.model(0, TO_END), -9);
    }

    private static void stale() {
        staleInStart();
        staleInProbe();
        staleAsItLeavesProbe();
        allInOneAnswer();
    }

    /** "(f) If it was not in PROBE as it came to (e), and was STALE with this ANSWER: PROBE". */
    private static void staleInStart() {
        ModelSender x = new ModelSender();
        Scenes.sendAt(x, 0, 36);
        Due.is("an answer at 1035", Scenes.sendAt(x, 1000, 1036), 1);
        Due.is("1000 is not STALE", x.ofSender(0, STATE), START);
        ModelSender y = new ModelSender();
        Scenes.sendAt(y, 0, 36);
        Due.is("an answer at 1036", Scenes.sendAt(y, 1001, 1037), 1);
        Due.is("1001 is", y.ofSender(0, STATE), PROBE);
        turnIs(y, 0, 1036, PROBE);
        // The answer that brings PROBE gives no END, though none is on the way.
        Due.is("no END", y.model(0, TO_END), -9);
    }

    private static void staleInProbe() {
        ModelSender x = new ModelSender();
        Scenes.sendAt(x, 0, 36);
        Scenes.sendAt(x, 1100, 1136);
        Due.is("STALE at 2335", Scenes.sendAt(x, 2300, 2336), 1);
        Due.is("PROBE", x.ofSender(0, STATE), PROBE);
        Due.is("LEAST AT", x.model(0, SINCE_LEAST), 1);
        Due.is("END is 2535", x.model(0, TO_END), 199);
        Due.is("no other TURN", x.many(3), 1);
    }

    private static void staleAsItLeavesProbe() {
        ModelSender x = new ModelSender();
        Scenes.sendAt(x, 0, 36);
        Scenes.sendAt(x, 1100, 1136);
        Scenes.sendAt(x, 2300, 2336);
        Due.is("STALE at 3635, behind END", Scenes.sendAt(x, 3600, 3636), 1);
        Due.is("START, and not PROBE at once", x.ofSender(0, STATE), START);
        turnIs(x, 0, 1135, PROBE);
        turnIs(x, 1, 3635, START);
        Due.is("two TURNS", x.many(3), 2);
    }

    /** "With each ANSWER that is TAKEN, behind all that, one after another": (b), (c) and (f) in one. */
    private static void allInOneAnswer() {
        ModelSender x = Scenes.slow(23);
        Scenes.till(x, 366);
        x.guests(1);
        Scenes.till(x, 386);
        x.guests(0);
        x.gate(40, 60, 5);
        // The last letter comes at 385 behind 3 letters and 20 guests: served from 400, 440, 480 and so on, it leaves at 1320.
        Due.is("answers at 405, 445, 485", Scenes.till(x, 1325), 3);
        Due.is("START with FLAT 2", x.model(0, FLAT), 2);
        Due.is("its answer", x.pass(1), 1);
        turnIs(x, 0, 1325, DRAIN);
        turnIs(x, 1, 1325, CRUISE);
        turnIs(x, 2, 1325, PROBE);
        Due.is("three TURNS", x.many(3), 3);
        Due.is("LEAST", x.ofSender(0, LEAST), 940);
    }

    private static void turns() {
        twelveTurns();
        thirteenTurns();
    }

    /** START to PROBE and back again and again: PROBE at 1135, START at 1535, each 2000 TICKS. */
    private static ModelSender toAndFro(int turns) {
        ModelSender x = new ModelSender();
        Scenes.sendAt(x, 0, 36);
        for (int i = 0; i < turns; i++) {
            int begin = 2000 * (i / 2);
            if (i % 2 == 0) {
                Scenes.sendAt(x, begin + 1100, begin + 1136);
            } else {
                Scenes.sendAt(x, begin + 1200, begin + 1236);
                Scenes.sendAt(x, begin + 1500, begin + 1536);
            }
        }
        Due.is("TURNS there were", x.many(3), turns);
        return x;
    }

    private static int tickOfTurn(int i) {
        return 2000 * (i / 2) + (i % 2 == 0 ? 1135 : 1535);
    }

    /** "TURNS: each time that a SENDER comes to another STATE (not PHASE), with its TICK; the last 12 are kept." */
    private static void twelveTurns() {
        ModelSender x = toAndFro(12);
        for (int k = 0; k < 12; k++) turnIs(x, k, tickOfTurn(k), k % 2 == 0 ? PROBE : START);
        Due.is("no other", x.turn(0, 12, 0), -1);
        Due.is("none of the other", x.turn(1, 0, 0), -1);
    }

    private static void thirteenTurns() {
        ModelSender x = toAndFro(13);
        for (int k = 0; k < 12; k++) turnIs(x, k, tickOfTurn(k + 1), k % 2 == 0 ? START : PROBE);
        Due.is("no other", x.turn(0, 12, 0), -1);
        Due.is("no other at all", x.turn(0, 12, 1), -1);
    }

    private static void asking() {
        phaseInOtherStates();
        endInOtherStates();
        howMany();
        sinceLeastAt();
    }

    /** "NONE, of both: it is in another STATE". */
    private static void phaseInOtherStates() {
        ModelSender inStart = new ModelSender();
        ModelSender inDrain = Scenes.slow(5000);
        Scenes.till(inDrain, 466);
        ModelSender inProbe = crowdedProbe();
        ModelSender probeBehindCruise = Scenes.cruising(1);
        Scenes.sendAt(probeBehindCruise, 1600, 1626);
        ModelSender[] all = {inStart, inDrain, inProbe, probeBehindCruise};
        int[] states = {START, DRAIN, PROBE, PROBE};
        for (int i = 0; i < all.length; i++) {
            Due.is("STATE", all[i].ofSender(0, STATE), states[i]);
            Due.is("no PHASE", all[i].phase(0, 0), -9);
            Due.is("since when", all[i].phase(0, 1), -9);
        }
    }

    /** "4 END less NOW of PROBE (0, if it is not above; NONE: it is not in PROBE, there is none)". */
    private static void endInOtherStates() {
        ModelSender x = Scenes.slow(5000);
        Due.is("in START", x.model(0, TO_END), -9);
        Scenes.till(x, 466);
        Due.is("in DRAIN", x.model(0, TO_END), -9);
        Scenes.till(x, 546);
        Due.is("in CRUISE", x.model(0, TO_END), -9);
        ModelSender y = crowdedProbe();
        Due.is("in PROBE, there is none", y.model(0, TO_END), -9);
        Scenes.till(y, 1350);
        Due.is("1 above", y.model(0, TO_END), 1);
        y.pass(1);
        Due.is("not above", y.model(0, TO_END), 0);
        y.pass(100);
        Due.is("below", y.model(0, TO_END), 0);
    }

    /** "How many: 0 NOW, 1 ANSWERS TAKEN, 2 LOSSES, 3 TURNS there were of both SENDERS, 4 TICKS that were BUSY." */
    private static void howMany() {
        ModelSender x = new ModelSender();
        x.stock(0, 1);
        x.stock(1, 2);
        Scenes.till(x, 1100);
        x.stock(0, 1);
        x.stock(1, 1);
        Scenes.till(x, 1200);
        Due.is("PROBE of 0", x.ofSender(0, STATE), PROBE);
        Due.is("PROBE of 1", x.ofSender(1, STATE), PROBE);
        x.gate(40, 1, 30);
        x.guests(1);
        x.pass(2);
        x.stock(0, 1);
        x.stock(1, 1);
        x.pass(1);
        int[] due = {1203, 5, 2, 2, 28};
        for (int what = 0; what <= 4; what++) Due.is("many " + what, x.many(what), due[what]);
    }

    /** "3 NOW less LEAST AT". */
    private static void sinceLeastAt() {
        ModelSender x = new ModelSender();
        Due.is("at first", x.model(0, SINCE_LEAST), 0);
        x.pass(2000);
        Due.is("LEAST AT is 0", x.model(0, SINCE_LEAST), 2000);
        Scenes.sendAt(x, 2000, 2036);
        Due.is("LEAST AT is 2035", x.model(0, SINCE_LEAST), 1);
    }
}
