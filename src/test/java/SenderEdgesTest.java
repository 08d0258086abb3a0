/** Section 2, promises 8 to 11: each sentence that names an edge has a test of its own; what is due is reckoned by hand. */
public final class SenderEdgesTest {
    private static final int STATE = 0, ON_WAY = 1, DELIVERED = 2, BEST = 3, LEAST = 4, PRODUCT = 5, WINDOW = 6, GAIN = 7,
        ROUNDS = 8, LOSSES = 9, STOCK = 10, LIMIT = 11, SENT = 12, NEXT = 13;

    public static void main(String[] args) {
        atFirst();
        whenItSends();
        whatALetterKeeps();
        dropped();
        limit();
        rounds();
        samples();
        least();
        product();
        window();
        lettersOnTheWay();
        Due.end();
    }

    /** "AT: .. (0 at first); LIMIT (0 at first); ROUNDS (0); MARK (0); BEST (0); LEAST (none), LEAST AT (0); NEXT (0)". */
    private static void atFirst() {
        ModelSender x = new ModelSender();
        for (int s = 0; s <= 1; s++) {
            Due.is("ON THE WAY", x.ofSender(s, ON_WAY), 0);
            Due.is("DELIVERED", x.ofSender(s, DELIVERED), 0);
            Due.is("LIMIT", x.ofSender(s, LIMIT), 0);
            Due.is("ROUNDS", x.ofSender(s, ROUNDS), 0);
            Due.is("BEST", x.ofSender(s, BEST), 0);
            Due.is("LEAST: there is none", x.ofSender(s, LEAST), -9);
            Due.is("LOSSES", x.ofSender(s, LOSSES), 0);
            Due.is("sent", x.ofSender(s, SENT), 0);
            Due.is("NEXT", x.ofSender(s, NEXT), 0);
            Due.is("no SAMPLE", x.sample(s, 0, 0), -1);
            Due.is("no LETTER", x.letter(s, 0, 0), -1);
            for (int n = 1; n <= 10; n++) Due.is("best of none", x.best(s, n), -9);
        }
        x.pass(7);
        Due.is("LEAST AT is 0 as long as there is no LEAST", x.model(0, 3), 7);
    }

    private static void whenItSends() {
        noStock();
        lastOfTheStock();
        windowIsFull();
        windowHasAPlace();
        nextIsNow();
        nextIsAThousandthAbove();
        eightInATick();
        eightOfEachSender();
    }

    /** "as long as STOCK is above 0". */
    private static void noStock() {
        ModelSender x = new ModelSender();
        x.pass(10);
        Due.is("none is sent", x.ofSender(0, SENT), 0);
        Due.is("STOCK is not below 0", x.ofSender(0, STOCK), 0);
    }

    private static void lastOfTheStock() {
        ModelSender x = new ModelSender();
        x.stock(0, 1);
        x.pass(1);
        Due.is("the one is sent", x.ofSender(0, SENT), 1);
        Due.is("none is left", x.ofSender(0, STOCK), 0);
        x.pass(1);
        Due.is("no other", x.ofSender(0, SENT), 1);
    }

    /** "ON THE WAY is less than WINDOW". */
    private static void windowIsFull() {
        ModelSender x = new ModelSender();
        x.stock(0, 11);
        x.pass(2);
        Due.is("ten are on the way", x.ofSender(0, ON_WAY), 10);
        x.pass(33);
        Due.is("the 11th is not sent", x.ofSender(0, STOCK), 1);
    }

    private static void windowHasAPlace() {
        ModelSender x = new ModelSender();
        x.stock(0, 9);
        x.pass(2);
        Due.is("nine are on the way", x.ofSender(0, ON_WAY), 9);
        x.stock(0, 2);
        x.pass(1);
        Due.is("one place was there", x.ofSender(0, ON_WAY), 10);
        Due.is("one letter stays", x.ofSender(0, STOCK), 1);
    }

    /** "NEXT is no more than 1000 times NOW". */
    private static void nextIsNow() {
        ModelSender x = Scenes.cruising();
        x.stock(0, 2);
        x.pass(1);
        // 100000000 by 50 times 100 is 20000: NEXT is 486000.
        Due.is("NEXT less 1000 times 467", x.ofSender(0, NEXT), 19000);
        Scenes.till(x, 486);
        Due.is("none at 485", x.ofSender(0, STOCK), 1);
        Due.is("NEXT is 1000 times NOW", x.ofSender(0, NEXT), 0);
        x.pass(1);
        Due.is("the second is sent at 486", x.letter(0, 1, 1), 486);
    }

    private static void nextIsAThousandthAbove() {
        ModelSender x = Scenes.slow(5000);
        // Sent at 523 in DRAIN, 57142 on: NEXT is 580142, in CRUISE from 545 on.
        Scenes.till(x, 580);
        Due.is("NEXT less 580000", x.ofSender(0, NEXT), 142);
        Due.is("28 are sent", x.ofSender(0, SENT), 28);
        x.pass(1);
        Due.is("not at 580", x.ofSender(0, SENT), 28);
        Due.is("NEXT is not above 581000", x.ofSender(0, NEXT), 0);
        x.pass(1);
        Due.is("at 581", x.ofSender(0, SENT), 29);
        Due.is("NEXT is reckoned from 581000 on", x.ofSender(0, NEXT), 19000);
    }

    /** "and it has sent less than 8 in this TICK". */
    private static void eightInATick() {
        ModelSender x = new ModelSender();
        x.stock(0, 9);
        x.pass(1);
        Due.is("eight at 0", x.ofSender(0, SENT), 8);
        Due.is("one is left", x.ofSender(0, STOCK), 1);
        x.pass(1);
        Due.is("the ninth at 1", x.letter(0, 8, 1), 1);
        ModelSender y = new ModelSender();
        y.stock(0, 7);
        y.pass(1);
        Due.is("seven at once", y.ofSender(0, SENT), 7);
        y.stock(0, 1);
        y.pass(1);
        Due.is("another tick counts anew", y.ofSender(0, SENT), 8);
    }

    private static void eightOfEachSender() {
        ModelSender x = new ModelSender();
        x.stock(0, 20);
        x.stock(1, 20);
        x.pass(1);
        Due.is("eight of 0", x.ofSender(0, SENT), 8);
        Due.is("eight of 1", x.ofSender(1, SENT), 8);
    }

    private static void whatALetterKeeps() {
        numbersFromNoughtOn();
        noneOnTheWay();
        oneOnTheWay();
        limitedOrNot();
        bestIsNought();
    }

    /** "the LETTER has the next number (of this SENDER, from 0 on)". */
    private static void numbersFromNoughtOn() {
        ModelSender x = new ModelSender();
        x.guests(50);
        x.stock(0, 2);
        x.stock(1, 2);
        x.pass(1);
        for (int s = 0; s <= 1; s++) {
            Due.is("first of " + s, x.letter(s, 0, 0), 0);
            Due.is("second of " + s, x.letter(s, 1, 0), 1);
        }
        x.pass(100);
        x.stock(1, 1);
        x.pass(1);
        Due.is("guests left", x.ofGate(4), 2);
        Due.is("numbers go on when none is on the way, without guests", x.letter(1, 0, 0), 2);
        Due.is("it has not left", x.letter(1, 0, 3), 0);
        Due.is("SENT is NOW", x.letter(1, 0, 1), 101);
    }

    /** "if none is ON THE WAY, AT becomes NOW". */
    private static void noneOnTheWay() {
        ModelSender x = new ModelSender();
        Due.is("first answer", Scenes.sendAt(x, 0, 36), 1);
        Due.is("second answer", Scenes.sendAt(x, 100, 136), 1);
        // From 100 on, not from the last answer at 35 on: 1000 by 35.
        Due.is("RATE", x.sample(0, 1, 1), 28);
    }

    private static void oneOnTheWay() {
        ModelSender x = new ModelSender();
        Scenes.sendAt(x, 0, 20);
        Due.is("both answers", Scenes.sendAt(x, 20, 56), 2);
        // AT stays 0: 2000 by 55.
        Due.is("RATE", x.sample(0, 1, 1), 36);
    }

    /** "and is LIMITED, if LIMIT is above 0". */
    private static void limitedOrNot() {
        ModelSender x = new ModelSender();
        x.stock(0, 1);
        x.pass(1);
        Due.is("LIMIT was 0", x.letter(0, 0, 2), 0);
        Due.is("LIMIT is 1 behind that", x.ofSender(0, LIMIT), 1);
        x.stock(0, 1);
        x.pass(1);
        Due.is("LIMIT was 1", x.letter(0, 1, 2), 1);
        Due.is("the first stays as it was", x.letter(0, 0, 2), 0);
    }

    /** "if BEST is above 0, NEXT becomes": else it stays. */
    private static void bestIsNought() {
        ModelSender x = Scenes.forgetful(11);
        Due.is("BEST", x.ofSender(0, BEST), 0);
        Due.is("there is a LEAST", x.ofSender(0, LEAST), 35);
        x.stock(0, 20);
        x.pass(1);
        Due.is("NEXT stays", x.ofSender(0, NEXT), 0);
        Due.is("so eight are sent in a TICK", x.ofSender(0, ON_WAY), 8);
        x.pass(1);
        Due.is("and WINDOW is 10", x.ofSender(0, ON_WAY), 10);
    }

    private static void dropped() {
        lastOneOfTheTick();
        eachTickAnew();
        droppedTakesANumber();
        droppedIsNotOnTheWay();
        droppedPutsNextOff();
    }

    /** "One that is DROPPED counts as a LOSS; it is the last one sent in this TICK." */
    private static void lastOneOfTheTick() {
        ModelSender x = new ModelSender();
        x.gate(40, 2, 30);
        x.stock(0, 6);
        x.pass(1);
        Due.is("served, waits, waits", x.ofSender(0, ON_WAY), 3);
        Due.is("one LOSS", x.ofSender(0, LOSSES), 1);
        Due.is("two are left", x.ofSender(0, STOCK), 2);
    }

    private static void eachTickAnew() {
        ModelSender x = new ModelSender();
        x.gate(40, 2, 30);
        x.stock(0, 6);
        x.pass(2);
        Due.is("one more in the next TICK", x.ofSender(0, LOSSES), 2);
        x.pass(1);
        Due.is("and in the next", x.ofSender(0, LOSSES), 3);
        Due.is("none is left", x.ofSender(0, STOCK), 0);
        Due.is("six were sent", x.ofSender(0, SENT), 6);
        Due.is("LOSSES of both", x.many(2), 3);
    }

    private static void droppedTakesANumber() {
        ModelSender x = new ModelSender();
        x.gate(10, 1, 30);
        x.stock(0, 3);
        x.pass(11);
        x.stock(0, 1);
        x.pass(1);
        Due.is("three are on the way", x.ofSender(0, ON_WAY), 3);
        Due.is("0", x.letter(0, 0, 0), 0);
        Due.is("1", x.letter(0, 1, 0), 1);
        Due.is("2 was dropped", x.letter(0, 2, 0), 3);
    }

    /** "sent and neither DROPPED nor ANSWERED": none is on the way, so AT becomes NOW with the next one. */
    private static void droppedIsNotOnTheWay() {
        ModelSender x = new ModelSender();
        x.gate(10, 1, 30);
        x.guests(1);
        x.pass(2);
        x.stock(0, 1);
        x.pass(1);
        x.guests(0);
        Due.is("dropped", x.ofSender(0, LOSSES), 1);
        Due.is("none on the way", x.ofSender(0, ON_WAY), 0);
        Due.is("no LETTER", x.letter(0, 0, 0), -1);
        Due.is("one answer", Scenes.sendAt(x, 50, 91), 1);
        // Sent at 50, answered at 90: 1000 by 40; from 2 on it would be 11.
        Due.is("RATE", x.sample(0, 0, 1), 25);
        Due.is("LEAST", x.ofSender(0, LEAST), 40);
    }

    private static void droppedPutsNextOff() {
        ModelSender x = Scenes.cruising();
        x.gate(40, 1, 24);
        x.guests(1);
        x.pass(2);
        x.stock(0, 1);
        x.pass(1);
        Due.is("dropped at 468", x.ofSender(0, LOSSES), 1);
        Due.is("NEXT is 488000", x.ofSender(0, NEXT), 19000);
    }

    private static void limit() {
        oneAtLeast();
        stockIsLeft();
        windowIsFullBehindThat();
        windowHasAPlaceBehindThat();
        nextAboveAndNot();
        lastOneDropped();
        eighthIsTheLast();
        limitIsReached();
        limitOfOneIsPassed();
    }

    /** "LIMIT becomes DELIVERED and ON THE WAY together, 1 at least". */
    private static void oneAtLeast() {
        ModelSender x = new ModelSender();
        x.pass(1);
        Due.is("LIMIT of 0", x.ofSender(0, LIMIT), 1);
        Due.is("LIMIT of 1", x.ofSender(1, LIMIT), 1);
        x.stock(0, 2);
        x.pass(1);
        Due.is("two on the way", x.ofSender(0, LIMIT), 2);
        x.pass(40);
        Due.is("two delivered", x.ofSender(0, LIMIT), 2);
        Due.is("none on the way", x.ofSender(0, ON_WAY), 0);
    }

    /** "if STOCK is 0". */
    private static void stockIsLeft() {
        ModelSender x = new ModelSender();
        x.gate(40, 1, 30);
        x.stock(0, 4);
        x.pass(1);
        // One is served, one waits, one is dropped and ends the TICK; WINDOW and NEXT would let one more go.
        Due.is("one is left", x.ofSender(0, STOCK), 1);
        Due.is("LIMIT", x.ofSender(0, LIMIT), 0);
    }

    /** "ON THE WAY is less than WINDOW". */
    private static void windowIsFullBehindThat() {
        ModelSender x = new ModelSender();
        x.stock(0, 10);
        x.pass(2);
        Due.is("STOCK is 0", x.ofSender(0, STOCK), 0);
        Due.is("ten of ten on the way", x.ofSender(0, ON_WAY), 10);
        Due.is("LIMIT", x.ofSender(0, LIMIT), 0);
    }

    private static void windowHasAPlaceBehindThat() {
        ModelSender x = new ModelSender();
        x.stock(0, 9);
        x.pass(1);
        Due.is("eight are sent, one is left", x.ofSender(0, LIMIT), 0);
        x.pass(1);
        Due.is("nine of ten on the way", x.ofSender(0, LIMIT), 9);
    }

    /** "and NEXT is no more than 1000 times NOW". */
    private static void nextAboveAndNot() {
        ModelSender x = Scenes.cruising();
        x.stock(0, 1);
        x.pass(1);
        Due.is("LIMIT stays: NEXT is 486000", x.ofSender(0, LIMIT), 23);
        Scenes.till(x, 486);
        Due.is("LIMIT stays at 485", x.ofSender(0, LIMIT), 23);
        x.pass(1);
        Due.is("LIMIT at 486: 23 and 1", x.ofSender(0, LIMIT), 24);
    }

    private static void lastOneDropped() {
        ModelSender x = new ModelSender();
        x.gate(40, 1, 30);
        x.stock(0, 3);
        x.pass(1);
        Due.is("the third is dropped", x.ofSender(0, LOSSES), 1);
        Due.is("LIMIT is looked at behind that", x.ofSender(0, LIMIT), 2);
    }

    private static void eighthIsTheLast() {
        ModelSender x = new ModelSender();
        x.stock(0, 8);
        x.pass(1);
        Due.is("LIMIT", x.ofSender(0, LIMIT), 8);
    }

    /** "if LIMIT is above 0 and DELIVERED above LIMIT, LIMIT becomes 0". */
    private static void limitIsReached() {
        ModelSender x = new ModelSender();
        x.stock(0, 2);
        x.pass(1);
        x.stock(0, 5000);
        x.pass(1);
        Due.is("LIMIT is 2", x.ofSender(0, LIMIT), 2);
        Scenes.till(x, 41);
        Due.is("two delivered", x.ofSender(0, DELIVERED), 2);
        Due.is("LIMIT stays", x.ofSender(0, LIMIT), 2);
        x.pass(5);
        Due.is("three delivered", x.ofSender(0, DELIVERED), 3);
        Due.is("LIMIT is 0", x.ofSender(0, LIMIT), 0);
    }

    private static void limitOfOneIsPassed() {
        ModelSender x = new ModelSender();
        x.pass(1);
        x.stock(0, 5000);
        Scenes.till(x, 37);
        Due.is("one delivered", x.ofSender(0, DELIVERED), 1);
        Due.is("LIMIT 1 stays", x.ofSender(0, LIMIT), 1);
        x.pass(5);
        Due.is("two delivered", x.ofSender(0, DELIVERED), 2);
        Due.is("LIMIT 1 is passed", x.ofSender(0, LIMIT), 0);
    }

    private static void rounds() {
        firstRound();
        deliveredIsMark();
        quotientsAreCut();
    }

    /** "If the LETTER's DELIVERED is MARK or more, a ROUND begins": 0 and 0 at first. */
    private static void firstRound() {
        ModelSender x = new ModelSender();
        x.stock(0, 3);
        Scenes.till(x, 36);
        Due.is("with the first answer", x.ofSender(0, ROUNDS), 1);
        x.pass(10);
        Due.is("three answers", x.ofSender(0, DELIVERED), 3);
        Due.is("not with others sent before it", x.ofSender(0, ROUNDS), 1);
    }

    private static void deliveredIsMark() {
        ModelSender x = Scenes.slow(5000);
        Scenes.till(x, 226);
        Due.is("ROUND 2 begins at 225, MARK 11", x.ofSender(0, ROUNDS), 2);
        Due.is("delivered", x.ofSender(0, DELIVERED), 11);
        // The 14th was sent at 205 with DELIVERED 10, the 15th at 225 with DELIVERED 11.
        Due.is("the 14th", x.letter(0, 2, 1), 205);
        Due.is("the 15th", x.letter(0, 3, 1), 225);
        Scenes.till(x, 305);
        Due.is("the 14th is answered", x.letter(0, 0, 0), 14);
        Due.is("no ROUND with it", x.ofSender(0, ROUNDS), 2);
        x.pass(1);
        Due.is("ROUND 3 with the 15th", x.ofSender(0, ROUNDS), 3);
    }

    /** "Quotients are cut." */
    private static void quotientsAreCut() {
        ModelSender x = new ModelSender();
        Scenes.sendAt(x, 0, 36);
        Due.is("1000 by 35", x.sample(0, 0, 1), 28);
        x.stock(0, 1);
        x.pass(1);
        Due.is("100000000 by 28 times 289", x.ofSender(0, NEXT), 36000 + 12357 - 37000);
    }

    private static void samples() {
        limitedAndLess();
        limitedAndEqual();
        notLimitedAndLess();
        samplesStayForTenRounds();
        samplesOfOtherRoundsStay();
        bestBeforeTheyGo();
        bestOfEachRound();
        bestOfTheLastRounds();
        bestOfRateNought();
        oldestSampleFirst();
    }

    /** "If the LETTER is not LIMITED, or RATE is no less than BEST, a SAMPLE is kept". */
    private static void limitedAndLess() {
        ModelSender x = new ModelSender();
        Scenes.sendAt(x, 0, 36);
        x.gate(5, 20, 31);
        Due.is("answer", Scenes.sendAt(x, 100, 137), 1);
        // 1000 by 36 is 27, one less than BEST.
        Due.is("no other SAMPLE", x.sample(0, 1, 0), -1);
        Due.is("a ROUND though", x.ofSender(0, ROUNDS), 2);
        Due.is("BEST", x.ofSender(0, BEST), 28);
    }

    private static void limitedAndEqual() {
        ModelSender x = new ModelSender();
        Scenes.sendAt(x, 0, 36);
        Scenes.till(x, 100);
        x.stock(0, 1);
        x.pass(1);
        Due.is("it is LIMITED", x.letter(0, 0, 2), 1);
        Scenes.till(x, 136);
        Due.is("ROUNDS of the SAMPLE", x.sample(0, 1, 0), 2);
        Due.is("RATE as BEST", x.sample(0, 1, 1), 28);
        Due.is("two alone", x.sample(0, 2, 0), -1);
    }

    private static void notLimitedAndLess() {
        ModelSender x = Scenes.slow(5000);
        // Sent at 581 with none on the way, answered at 606: 1000 by 25, and BEST is 50.
        Scenes.till(x, 582);
        Due.is("not LIMITED", x.letter(0, 0, 2), 0);
        Scenes.till(x, 607);
        Due.is("ROUNDS", x.ofSender(0, ROUNDS), 7);
        Due.is("kept", x.best(0, 1), 40);
        Due.is("BEST", x.ofSender(0, BEST), 50);
    }

    /** "SAMPLES whose ROUNDS are 10 or more less than ROUNDS now go." */
    private static void samplesStayForTenRounds() {
        ModelSender x = Scenes.forgetful(10);
        Due.is("ROUNDS 10", x.ofSender(0, ROUNDS), 10);
        Due.is("9 less stays", x.sample(0, 1, 0), 1);
        Due.is("BEST", x.ofSender(0, BEST), 50);
        ModelSender y = Scenes.forgetful(11);
        Due.is("ROUNDS 11", y.ofSender(0, ROUNDS), 11);
        Due.is("10 less goes", y.sample(0, 0, 0), -1);
        // "BEST becomes the greatest RATE of SAMPLES (0, if there is none)."
        Due.is("BEST of none", y.ofSender(0, BEST), 0);
        Due.is("best of none", y.best(0, 10), -9);
    }

    private static void samplesOfOtherRoundsStay() {
        ModelSender x = Scenes.slow(5000);
        Scenes.till(x, 766);
        // ROUND 1 has ten SAMPLES, 2 .. 5 four each, 6 .. 10 two each.
        Due.is("ROUNDS 10", x.ofSender(0, ROUNDS), 10);
        Due.is("the oldest is of ROUND 1", x.sample(0, 0, 0), 1);
        Due.is("its RATE", x.sample(0, 0, 1), 40);
        Due.is("the last of ROUND 1", x.sample(0, 9, 0), 1);
        Due.is("the first of ROUND 2", x.sample(0, 10, 0), 2);
        Due.is("36 in all", x.sample(0, 35, 0), 10);
        Due.is("no more", x.sample(0, 36, 0), -1);
        x.pass(1);
        Due.is("ROUNDS 11", x.ofSender(0, ROUNDS), 11);
        Due.is("the oldest is of ROUND 2", x.sample(0, 0, 0), 2);
        Due.is("its RATE", x.sample(0, 0, 1), 50);
        Due.is("ROUND 7's first", x.sample(0, 18, 0), 7);
        Due.is("1000 by 25", x.sample(0, 18, 1), 40);
        Due.is("ROUND 7's second", x.sample(0, 19, 0), 7);
        Due.is("2000 by 45", x.sample(0, 19, 1), 44);
        Due.is("27 in all", x.sample(0, 26, 0), 11);
        Due.is("no more", x.sample(0, 27, 0), -1);
    }

    /** "RATE is no less than BEST" is asked before SAMPLES go and BEST becomes another. */
    private static void bestBeforeTheyGo() {
        ModelSender x = Scenes.forgetful(11);
        Due.is("27 was less than 50, so none is kept", x.sample(0, 0, 0), -1);
        x.stock(0, 1);
        x.pass(40);
        Due.is("27 is no less than 0", x.sample(0, 0, 1), 27);
        Due.is("ROUNDS 12", x.sample(0, 0, 0), 12);
        Due.is("BEST", x.ofSender(0, BEST), 27);
    }

    /** "BEST becomes the greatest RATE of SAMPLES": in which ROUND ever it was. */
    private static void bestOfEachRound() {
        for (int good = 1; good <= 12; good++) {
            // Of two letters at once the other has 2000 by 40; with BEST 28 it is sent 13 later: 2000 by 48. Alone 1000 by 35.
            int great = good == 1 ? 50 : 41;
            ModelSender x = new ModelSender();
            for (int round = 1; round <= 13; round++) {
                x.stock(0, round == good ? 2 : 1);
                x.pass(100);
                Due.is("ROUNDS", x.ofSender(0, ROUNDS), round);
                int due = round >= good && round < good + 10 ? great : 28;
                Due.is("BEST in ROUND " + round + " with " + good, x.ofSender(0, BEST), round == good + 10 ? 0 : due);
            }
        }
    }

    /** "The greatest RATE of SAMPLES of the last n ROUNDS (1 .. 10; of n 1 those of ROUNDS as it is now alone)". */
    private static void bestOfTheLastRounds() {
        for (int rounds = 1; rounds <= 10; rounds++) {
            ModelSender x = Scenes.forgetful(rounds);
            for (int n = 1; n <= 10; n++) Due.is("best " + n + " in " + rounds, x.best(0, n), n >= rounds ? 50 : -9);
        }
        ModelSender y = Scenes.slow(5000);
        Scenes.till(y, 627);
        Due.is("ROUND 7 alone", y.best(0, 1), 44);
        Due.is("ROUNDS 6 and 7", y.best(0, 2), 50);
    }

    private static void bestOfRateNought() {
        ModelSender x = new ModelSender();
        x.gate(40, 60, 200);
        x.guests(1);
        x.pass(30);
        x.guests(0);
        x.stock(0, 1);
        // Behind 30 guests, from 0 to 1200, and sent at 30: it leaves at 1240, the answer is at 1440.
        Scenes.till(x, 1441);
        Due.is("LEAST", x.ofSender(0, LEAST), 1410);
        Due.is("a SAMPLE of RATE 0", x.sample(0, 0, 1), 0);
        Due.is("best is 0, not NONE", x.best(0, 1), 0);
        Due.is("of the other it is NONE", x.best(1, 1), -9);
    }

    /** "Of the k-th SAMPLE that a SENDER has (the oldest is 0)": "a SAMPLE is kept (behind the others)". */
    private static void oldestSampleFirst() {
        ModelSender x = Scenes.slow(5000);
        Scenes.till(x, 206);
        int[] due = {40, 44, 46, 47, 47, 48, 48, 48, 48, 48};
        for (int k = 0; k < due.length; k++) Due.is("RATE " + k, x.sample(0, k, 1), due[k]);
        Due.is("no 11th", x.sample(0, 10, 1), -1);
        Due.is("none of the other", x.sample(1, 0, 1), -1);
    }

    private static void least() {
        noLeast();
        asLongAsLeast();
        oneLonger();
        oneShorter();
        notStaleAtThousand();
        staleAtThousandAndOne();
    }

    /** "If there is no LEAST": LEAST becomes NOW less SENT, LEAST AT becomes NOW. */
    private static void noLeast() {
        ModelSender x = new ModelSender();
        Due.is("none", x.ofSender(0, LEAST), -9);
        // However late the first answer is, it is not STALE, as there is no LEAST.
        Due.is("one answer", Scenes.sendAt(x, 2000, 2036), 1);
        Due.is("LEAST", x.ofSender(0, LEAST), 35);
        Due.is("LEAST AT", x.model(0, 3), 1);
        Due.is("START", x.ofSender(0, STATE), 0);
    }

    /** "or NOW less SENT is no more than LEAST". */
    private static void asLongAsLeast() {
        ModelSender x = new ModelSender();
        Scenes.sendAt(x, 0, 36);
        Due.is("one answer", Scenes.sendAt(x, 100, 136), 1);
        Due.is("LEAST", x.ofSender(0, LEAST), 35);
        Due.is("LEAST AT is anew", x.model(0, 3), 1);
    }

    private static void oneLonger() {
        ModelSender x = new ModelSender();
        Scenes.sendAt(x, 0, 36);
        x.gate(5, 20, 31);
        Due.is("one answer", Scenes.sendAt(x, 100, 137), 1);
        Due.is("LEAST stays", x.ofSender(0, LEAST), 35);
        Due.is("LEAST AT stays", x.model(0, 3), 137 - 35);
    }

    private static void oneShorter() {
        ModelSender x = new ModelSender();
        Scenes.sendAt(x, 0, 36);
        x.gate(5, 20, 29);
        Due.is("one answer", Scenes.sendAt(x, 100, 135), 1);
        Due.is("LEAST", x.ofSender(0, LEAST), 34);
        Due.is("LEAST AT", x.model(0, 3), 1);
    }

    /** "It is STALE, if LEAST is there and NOW less LEAST AT is above 1000." */
    private static void notStaleAtThousand() {
        ModelSender x = new ModelSender();
        Scenes.sendAt(x, 0, 36);
        x.gate(5, 20, 31);
        Due.is("one answer at 1035", Scenes.sendAt(x, 999, 1036), 1);
        Due.is("LEAST stays", x.ofSender(0, LEAST), 35);
        Due.is("LEAST AT stays", x.model(0, 3), 1001);
        Due.is("START", x.ofSender(0, STATE), 0);
    }

    private static void staleAtThousandAndOne() {
        ModelSender x = new ModelSender();
        Scenes.sendAt(x, 0, 36);
        x.gate(5, 20, 31);
        Due.is("one answer at 1036", Scenes.sendAt(x, 1000, 1037), 1);
        Due.is("LEAST is longer", x.ofSender(0, LEAST), 36);
        Due.is("LEAST AT", x.model(0, 3), 1);
        Due.is("PROBE", x.ofSender(0, STATE), 3);
    }

    private static void product() {
        productWithoutLeast();
        productOf(37, 27, 0);
        productOf(40, 25, 1);
        productOf(25, 40, 1);
        productOf(35, 28, 0);
    }

    /** "PRODUCT: BEST times LEAST by 1000 (0, if there is no LEAST)." */
    private static void productWithoutLeast() {
        ModelSender x = new ModelSender();
        x.stock(0, 10);
        x.pass(30);
        Due.is("no LEAST", x.ofSender(0, LEAST), -9);
        Due.is("PRODUCT", x.ofSender(0, PRODUCT), 0);
    }

    /** One letter alone: 999 by 1000 is 0, 1000 by 1000 is 1. */
    private static void productOf(int ticks, int rate, int product) {
        ModelSender x = new ModelSender();
        x.gate(5, 20, ticks - 5);
        Scenes.sendAt(x, 0, ticks + 1);
        Due.is("LEAST", x.ofSender(0, LEAST), ticks);
        Due.is("BEST", x.ofSender(0, BEST), rate);
        Due.is("PRODUCT of " + ticks + " and " + rate, x.ofSender(0, PRODUCT), product);
    }

    private static void window() {
        windowWithoutAnswers();
        windowAsBestIsNought();
        fourAtLeastInStart();
        windowInStart();
        windowInDrain();
        windowInCruise();
        fourAtLeastInCruise();
        windowInProbe();
        windowInProbeAsBestIsNought();
        widestWindow();
    }

    /** "else 10, if BEST is 0 or there is no LEAST". */
    private static void windowWithoutAnswers() {
        ModelSender x = new ModelSender();
        Due.is("WINDOW", x.ofSender(0, WINDOW), 10);
        x.stock(0, 10);
        x.pass(35);
        Due.is("WINDOW before the first answer", x.ofSender(0, WINDOW), 10);
        x.pass(1);
        Due.is("WINDOW behind it", x.ofSender(0, WINDOW), 4);
    }

    private static void windowAsBestIsNought() {
        ModelSender x = Scenes.forgetful(11);
        Due.is("LEAST is there", x.ofSender(0, LEAST), 35);
        Due.is("BEST", x.ofSender(0, BEST), 0);
        Due.is("WINDOW", x.ofSender(0, WINDOW), 10);
    }

    /** "but 4 at least": 289 times 0 and times 1 by 100 are less. */
    private static void fourAtLeastInStart() {
        ModelSender x = Scenes.slow(5000);
        Scenes.till(x, 26);
        Due.is("PRODUCT 1", x.ofSender(0, PRODUCT), 1);
        Due.is("WINDOW", x.ofSender(0, WINDOW), 4);
        ModelSender y = new ModelSender();
        Scenes.sendAt(y, 0, 36);
        Due.is("PRODUCT 0", y.ofSender(0, PRODUCT), 0);
        Due.is("WINDOW", y.ofSender(0, WINDOW), 4);
    }

    /** "289 times PRODUCT by 100 in START and DRAIN". */
    private static void windowInStart() {
        ModelSender x = Scenes.middle(5000);
        int[][] due = {{61, 2, 5}, {121, 3, 8}, {141, 4, 11}};
        for (int[] d : due) {
            Scenes.till(x, d[0]);
            Due.is("START", x.ofSender(0, STATE), 0);
            Due.is("PRODUCT", x.ofSender(0, PRODUCT), d[1]);
            Due.is("WINDOW", x.ofSender(0, WINDOW), d[2]);
        }
    }

    private static void windowInDrain() {
        ModelSender x = Scenes.middle(5000);
        Scenes.till(x, 431);
        Due.is("DRAIN", x.ofSender(0, STATE), 1);
        Due.is("GAIN", x.ofSender(0, GAIN), 35);
        Due.is("WINDOW", x.ofSender(0, WINDOW), 11);
    }

    /** "2 times PRODUCT in CRUISE". */
    private static void windowInCruise() {
        ModelSender x = Scenes.middle(5000);
        Scenes.till(x, 531);
        Due.is("CRUISE", x.ofSender(0, STATE), 2);
        Due.is("WINDOW", x.ofSender(0, WINDOW), 8);
    }

    private static void fourAtLeastInCruise() {
        ModelSender x = Scenes.cruising();
        Due.is("PRODUCT 1", x.ofSender(0, PRODUCT), 1);
        Due.is("WINDOW", x.ofSender(0, WINDOW), 4);
    }

    /** "WINDOW: 4 in PROBE". */
    private static void windowInProbe() {
        ModelSender x = Scenes.cruising();
        x.gate(40, 60, 200);
        Due.is("one answer at 1840", Scenes.sendAt(x, 1600, 1841), 1);
        Due.is("PROBE", x.ofSender(0, STATE), 3);
        Due.is("PRODUCT: 50 times 240", x.ofSender(0, PRODUCT), 12);
        Due.is("WINDOW", x.ofSender(0, WINDOW), 4);
        Due.is("GAIN", x.ofSender(0, GAIN), 100);
        x.stock(0, 9);
        Scenes.till(x, 2041);
        Due.is("no more are sent", x.ofSender(0, ON_WAY), 4);
    }

    private static void windowInProbeAsBestIsNought() {
        ModelSender x = Scenes.forgetful(10);
        Due.is("one answer at 1136", Scenes.sendAt(x, 1100, 1137), 1);
        Due.is("PROBE", x.ofSender(0, STATE), 3);
        Due.is("BEST", x.ofSender(0, BEST), 0);
        Due.is("WINDOW", x.ofSender(0, WINDOW), 4);
        x.stock(0, 9);
        x.pass(1);
        Due.is("four are sent", x.ofSender(0, ON_WAY), 4);
    }

    /** A letter leaves in each TICK, so that BEST is 1000 and PRODUCT as LEAST; and WINDOW is more than can be on the way. */
    private static void widestWindow() {
        ModelSender x = new ModelSender();
        x.gate(1, 60, 200);
        for (int i = 0; i < 4; i++) x.stock(0, 5000);
        Scenes.till(x, 1600);
        Due.is("START", x.ofSender(0, STATE), 0);
        Due.is("BEST", x.ofSender(0, BEST), 1000);
        Due.is("LEAST", x.ofSender(0, LEAST), 201);
        Due.is("PRODUCT", x.ofSender(0, PRODUCT), 201);
        Due.is("WINDOW: 58089 by 100", x.ofSender(0, WINDOW), 580);
        // The gate stands still for 40 TICKS: the room gets full, and is full still as 200 more have left.
        x.gate(40, 60, 200);
        x.pass(70);
        Due.is("the ROOM is full", x.ofGate(0), 60);
        x.gate(1, 60, 200);
        x.pass(239);
        Due.is("one is served, 60 wait, 200 have left", x.ofSender(0, ON_WAY), 261);
        Due.is("the last that left", x.letter(0, 199, 3), 1);
        Due.is("the one served", x.letter(0, 200, 3), 0);
        Due.is("the last one", x.letter(0, 260, 0), x.ofSender(0, SENT) - 1);
        Due.is("no other", x.letter(0, 261, 0), -1);
    }

    private static void lettersOnTheWay() {
        oldestLetterFirst();
        laterOneAnsweredFirst();
        leftTheGate();
    }

    /** "Of the k-th LETTER ON THE WAY of a SENDER (the oldest is 0)". */
    private static void oldestLetterFirst() {
        ModelSender x = new ModelSender();
        x.stock(0, 10);
        x.pass(36);
        for (int k = 0; k <= 8; k++) {
            Due.is("number", x.letter(0, k, 0), k + 1);
            Due.is("sent", x.letter(0, k, 1), k < 7 ? 0 : 1);
        }
        Due.is("no tenth", x.letter(0, 9, 0), -1);
    }

    private static void laterOneAnsweredFirst() {
        ModelSender x = new ModelSender();
        x.gate(5, 20, 100);
        x.stock(0, 3);
        x.pass(6);
        x.gate(5, 20, 1);
        // They leave at 5, 10, 15; answers at 105, 11, 16.
        Due.is("one answer", Scenes.till(x, 12), 1);
        Due.is("the oldest is 0", x.letter(0, 0, 0), 0);
        Due.is("then 2", x.letter(0, 1, 0), 2);
        Due.is("two alone", x.letter(0, 2, 0), -1);
        Due.is("one answer more", Scenes.till(x, 105), 1);
        Due.is("0 is left", x.letter(0, 0, 0), 0);
        Due.is("it alone", x.letter(0, 1, 0), -1);
        Due.is("the last answer", x.pass(1), 1);
        Due.is("none", x.letter(0, 0, 0), -1);
    }

    /** "3 whether it LEFT the GATE (1, 0)". */
    private static void leftTheGate() {
        ModelSender x = new ModelSender();
        x.stock(0, 2);
        x.pass(5);
        Due.is("served", x.letter(0, 0, 3), 0);
        Due.is("waits", x.letter(0, 1, 3), 0);
        x.pass(1);
        Due.is("left", x.letter(0, 0, 3), 1);
        Due.is("served now", x.letter(0, 1, 3), 0);
    }
}
