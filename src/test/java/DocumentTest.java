import java.io.IOException;
import java.lang.reflect.Field;
import java.lang.reflect.Method;
import java.lang.reflect.Modifier;
import java.nio.file.Files;
import java.nio.file.Path;
import java.util.Arrays;
import java.util.regex.Matcher;
import java.util.regex.Pattern;

/**
 * Goes through the document from its first line to its last: each piece of it is quoted, has to stand there behind the piece
 * before, and is followed by a plain case of what it says, reckoned by hand. Edges have tests of their own elsewhere.
 */
public final class DocumentTest {
    private static final int WAITING = 0, SERVED = 1, LEFT_0 = 2, LEFT_1 = 3, GUESTS_LEFT = 4;
    private static final int STATE = 0, ON_WAY = 1, DELIVERED = 2, BEST = 3, LEAST = 4, PRODUCT = 5, WINDOW = 6, GAIN = 7;
    private static final int ROUNDS = 8, LOSSES = 9, STOCK = 10, LIMIT = 11, SENT = 12, AHEAD = 13;
    private static final int FULL = 0, TOP = 1, FLAT = 2, SINCE_LEAST = 3, TO_END = 4;
    private static final int START = 0, DRAIN = 1, CRUISE = 2, PROBE = 3;

    private static String document;
    private static int place;
    private static int faceMethods;

    public static void main(String[] args) throws Exception {
        document = Files.readString(Path.of("../shared/DOC.md")).replaceAll("(?m)^```.*$", "").replaceAll("\\s+", " ").trim();
        whatItIs();
        face();
        refusals();
        timeAndGate();
        ticks();
        sender();
        sends();
        takes();
        learns();
        states();
        phases();
        probe();
        interfaceComments();
        promisesOfTheGate();
        promisesOfSenders();
        promisesOfStates();
        notPromised();
        Due.is("the document ends here", place, document.length());
        Due.end();
    }

    /** The document goes on so. */
    private static void says(String piece) {
        while (place < document.length() && document.charAt(place) == ' ') place++;
        boolean here = document.startsWith(piece, place);
        Due.is("the document says here: " + piece, here ? 1 : 0, 1);
        int found = here ? place : document.indexOf(piece, place);
        if (found >= 0) place = found + piece.length();
    }

    private static void yes(String what, boolean holds) {
        Due.is(what, holds ? 1 : 0, 1);
    }

    private static ModelSender made(int service, int room, int delay) {
        ModelSender x = new ModelSender();
        x.gate(service, room, delay);
        return x;
    }

    /** NOW is 36: one letter, sent at 0, left at 5, answered at 35: BEST 28, LEAST 35, LIMIT 1. */
    private static ModelSender answered() {
        ModelSender x = new ModelSender();
        Due.is("the answer at 35", Scenes.sendAt(x, 0, 36), 1);
        return x;
    }

    private static ModelSender till(ModelSender x, int tick) {
        Scenes.till(x, tick);
        return x;
    }

    private static void whatItIs() {
        says("# ModelSender");
        yes("its name, without a package", ModelSender.class.getName().equals("ModelSender"));
        says("## What it is");
        says("Senders by a model of the way: two senders whose letters go through one gate that lets one through at a time, with "
            + "guests among them; each sender learns from answers how fast letters are delivered at the most and how long a round "
            + "lasts at the least, sends at a pace by that, no more on the way than a window; it starts up, drains, cruises by "
            + "gains in turn, and at times makes room to look for the least round anew.");
        ModelSender x = new ModelSender();
        x.guests(60);
        for (int s = 0; s <= 1; s++) x.stock(s, 5000);
        till(x, 6000);
        for (int s = 0; s <= 1; s++) {
            boolean[] seen = new boolean[4];
            for (int k = 0; x.turn(s, k, 1) >= 0; k++) seen[x.turn(s, k, 1)] = true;
            yes("sender " + s + " drained, cruised and looked for the least round", seen[DRAIN] && seen[CRUISE] && seen[PROBE]);
        }
        int left = x.ofGate(LEFT_0) + x.ofGate(LEFT_1) + x.ofGate(GUESTS_LEFT);
        int notYetLeft = x.many(4) - 5 * left;
        yes("each was served for 5 TICKS, and one is served now", notYetLeft >= 1 && notYetLeft <= 5 && x.ofGate(SERVED) == 1);
        yes("letters of all three are among them", x.ofGate(LEFT_0) > 0 && x.ofGate(LEFT_1) > 0 && x.ofGate(GUESTS_LEFT) > 0);
        says("An object is used for at most 512 calls after it has been made; what later calls answer is free.");
        ModelSender y = new ModelSender();
        y.gate(1, 1, 1);
        y.guests(1);
        for (int call = 3; call <= 511; call++) y.pass(2000);
        Due.is("the 512th call: all guests but the last left", y.ofGate(GUESTS_LEFT), 509 * 2000 - 1);
    }

    private static void face() throws Exception {
        says("## The public face");
        says("public final class ModelSender {");
        Due.is("public and final", ModelSender.class.getModifiers(), Modifier.PUBLIC | Modifier.FINAL);
        constants("int", "UNKNOWN = -1, OUTSIDE = -2, FULL = -4, NONE = -9");
        constants("long", "LOST = Long.MIN_VALUE");
        says("public ModelSender();");
        Due.is("one public constructor", ModelSender.class.getConstructors().length, 1);
        Due.is("without parameters", ModelSender.class.getConstructors()[0].getParameterCount(), 0);
        String[] methods = {"int gate(int service, int room, int delay)", "int guests(int v)", "int stock(int s, int n)",
            "int pass(int ticks)", "int ofGate(int what)", "long busy(int which)", "int ofSender(int s, int what)",
            "int sample(int s, int k, int what)", "int best(int s, int n)", "int letter(int s, int k, int what)",
            "int phase(int s, int what)", "int model(int s, int what)", "int turn(int s, int k, int what)", "int many(int what)"};
        for (String method : methods) method(method);
        says("}");
        int publicOnes = 0;
        for (Method m : ModelSender.class.getDeclaredMethods()) if (Modifier.isPublic(m.getModifiers())) publicOnes++;
        Due.is("no other public method", publicOnes, faceMethods);
        Due.is("no other public field", ModelSender.class.getFields().length, 5);
    }

    private static void constants(String type, String list) throws Exception {
        says("public static final " + type + " " + list + ";");
        for (String one : list.split(", ")) {
            String[] parts = one.split(" = ");
            Field f = ModelSender.class.getField(parts[0]);
            long value = parts[1].equals("Long.MIN_VALUE") ? Long.MIN_VALUE : Long.parseLong(parts[1]);
            yes(parts[0] + " is of type " + type, f.getType().getName().equals(type));
            Due.is(parts[0] + " is public, static, final", f.getModifiers(), Modifier.PUBLIC | Modifier.STATIC | Modifier.FINAL);
            Due.is(parts[0], f.getLong(null), value);
        }
    }

    private static void method(String line) throws Exception {
        says("public " + line + ";");
        Matcher parts = Pattern.compile("(\\w+) (\\w+)\\((.*)\\)").matcher(line);
        yes(line, parts.matches());
        Class<?>[] ints = new Class<?>[parts.group(3).split(", ").length];
        Arrays.fill(ints, int.class);
        Method m = ModelSender.class.getDeclaredMethod(parts.group(2), ints);
        yes(line + " answers " + parts.group(1), m.getReturnType().getName().equals(parts.group(1)));
        Due.is(line + " is public and nothing else", m.getModifiers(), Modifier.PUBLIC);
        faceMethods++;
    }

    private static void refusals() {
        says("## Terms");
        says("REFUSALS: of a call's line the first that fits is answered, in the order told there: UNKNOWN (there is no such "
            + "SENDER, SAMPLE, LETTER, TURN), OUTSIDE (another number is not as told), FULL (as told); they change nothing.");
        ModelSender x = new ModelSender();
        for (int i = 0; i < 20; i++) x.stock(0, 5000);
        String before = Scenes.readings(x);
        Due.is("UNKNOWN before OUTSIDE and FULL", x.stock(2, 5001), -1);
        Due.is("OUTSIDE before FULL", x.stock(0, 5001), -2);
        Due.is("FULL", x.stock(0, 1), -4);
        yes("they change nothing", Scenes.readings(x).equals(before));
        says("NONE is -9.");
        Due.is("no LEAST", x.ofSender(0, LEAST), -9);
        says("LOST is answered for any refusal, where a long is.");
        Due.is("LOST", x.busy(2), Long.MIN_VALUE);
        says("Quotients are cut.");
        Due.is("1000 by 35", answered().ofSender(0, BEST), 28);
        says("What is told is by how all is when it is asked.");
        ModelSender y = answered();
        Due.is("LEAST AT was a TICK ago", y.model(0, SINCE_LEAST), 1);
        y.pass(9);
        Due.is("and is 10 ago now", y.model(0, SINCE_LEAST), 10);
    }

    private static void timeAndGate() {
        says("==== 1 TIME goes by TICKS; NOW is 0 at first.");
        ModelSender x = new ModelSender();
        Due.is("NOW at first", x.many(0), 0);
        x.pass(3);
        Due.is("three TICKS", x.many(0), 3);
        says("The GATE has a SERVICE (1 .. 40 TICKS; 5 at first), ROOM (1 .. 60 letters that wait; 20), a DELAY (1 .. 200 TICKS; "
            + "30);");
        Due.is("the least", x.gate(1, 1, 1), 1);
        Due.is("the greatest", x.gate(40, 60, 200), 1);
        ModelSender y = new ModelSender();
        y.stock(0, 1);
        Due.is("5 and 30 at first", Scenes.till(y, 35), 0);
        Due.is("the answer", y.pass(1), 1);
        ModelSender z = new ModelSender();
        for (int s = 0; s <= 1; s++) z.stock(s, 5000);
        // At 0 one is served, 15 wait; at 1 two of each come, so 19 wait; then each has its WINDOW on the way, and guests come.
        z.pass(2);
        Due.is("19 wait", z.ofGate(WAITING), 19);
        z.guests(1);
        z.pass(2);
        Due.is("20 wait, and no more", z.ofGate(WAITING), 20);
        Due.is("a guest is dropped", z.ofGate(5), 1);
        says("EVERY: 0 .. 200 TICKS between GUESTS (0 at first: none).");
        ModelSender none = new ModelSender();
        none.pass(401);
        Due.is("no guest was there", none.many(4), 0);
        Due.is("0 at first", none.guests(200), 0);
        Due.is("200", none.guests(0), 200);
        says("A letter that COMES to the GATE: if none is served there, it is served at once, till NOW and SERVICE; else, if less "
            + "than ROOM wait, it waits; else it is DROPPED.");
        ModelSender three = made(5, 1, 30);
        three.stock(0, 3);
        three.pass(1);
        Due.is("one is served", three.ofGate(SERVED), 1);
        Due.is("one waits", three.ofGate(WAITING), 1);
        Due.is("one is DROPPED", three.ofSender(0, LOSSES), 1);
        Due.is("none left before 5", till(three, 5).ofGate(LEFT_0), 0);
        Due.is("one leaves at 5", till(three, 6).ofGate(LEFT_0), 1);
        says("SENDERS 0, 1, each with a STOCK of letters yet to be sent (0 at first).");
        ModelSender fresh = new ModelSender();
        Due.is("STOCK of 0", fresh.ofSender(0, STOCK), 0);
        Due.is("STOCK of 1", fresh.ofSender(1, STOCK), 0);
        Due.is("no SENDER 2", fresh.ofSender(2, STOCK), -1);
    }

    private static void ticks() {
        says("A TICK, in this order: (1) ANSWERS that are due at NOW, those of SENDER 0, then those of SENDER 1, of each by the "
            + "numbers of their LETTERS: each is TAKEN (section 2, 3).");
        ModelSender x = new ModelSender();
        Scenes.sendAt(x, 0, 1);
        Scenes.sendAt(x, 1, 6);
        x.gate(5, 20, 25);
        // The first, not LIMITED, left at 5; the second, LIMITED, leaves at 10: both are due at 35.
        Due.is("none before 35", Scenes.till(x, 35), 0);
        Due.is("both at 35", x.pass(1), 2);
        Due.is("the ROUND began with the first", x.model(0, TOP), 28);
        says("(2) If the letter that is served is served till NOW, it LEAVES: a SENDER's LETTER has an ANSWER that is due at NOW and "
            + "DELAY; the first of those that wait, if any does, is served, till NOW and SERVICE.");
        ModelSender y = new ModelSender();
        for (int s = 0; s <= 1; s++) y.stock(s, 1);
        Due.is("served till 5", till(y, 5).letter(0, 0, 3), 0);
        Due.is("it LEAVES at 5", till(y, 6).letter(0, 0, 3), 1);
        Due.is("the other does not wait any more", y.ofGate(WAITING), 0);
        Due.is("it is served", y.ofGate(SERVED), 1);
        Due.is("till 10", till(y, 10).letter(1, 0, 3), 0);
        Due.is("it LEAVES at 10", till(y, 11).letter(1, 0, 3), 1);
        Due.is("none is served", y.ofGate(SERVED), 0);
        Due.is("ANSWERS at 35", Scenes.till(y, 35) + 10 * y.pass(1), 10);
        Due.is("and 40", Scenes.till(y, 40) + 10 * y.pass(1), 10);
        says("(3) If EVERY is above 0 and divides NOW, a GUEST's letter COMES.");
        ModelSender g = made(1, 20, 30);
        g.guests(7);
        Due.is("guests at 0, 7, 14", till(g, 15).ofGate(GUESTS_LEFT), 2);
        Due.is("the third left at 15", till(g, 16).ofGate(GUESTS_LEFT), 3);
        says("(4) SENDER 0 SENDS, then SENDER 1.");
        ModelSender z = made(5, 1, 30);
        z.stock(1, 1);
        z.stock(0, 2);
        z.pass(1);
        Due.is("0 found the GATE free", z.ofSender(0, LOSSES), 0);
        Due.is("1 found it full", z.ofSender(1, LOSSES), 1);
        says("(5) The TICK is BUSY, if a letter is served now; NOW is 1 more.");
        ModelSender b = new ModelSender();
        b.stock(0, 1);
        Due.is("five BUSY TICKS", till(b, 5).many(4), 5);
        Due.is("the one in which it leaves is not", till(b, 6).many(4), 5);
        says("(When an ANSWER is due, till when a letter is served, stays as it was when the one LEFT, the other began to be served; "
            + "another DELAY, SERVICE holds for later ones.)");
        ModelSender later = new ModelSender();
        later.stock(0, 2);
        till(later, 6).gate(40, 20, 1);
        // The first left at 5, due at 35; the second is served till 10, due at 11.
        Due.is("the second at 11", Scenes.till(later, 11) + 10 * later.pass(1), 10);
        Due.is("the first is on the way", later.letter(0, 0, 0), 0);
        Due.is("the first at 35", Scenes.till(later, 35) + 10 * later.pass(1), 10);
        later.stock(0, 1);
        Due.is("a third, sent at 36, is served for 40", till(later, 76).ofGate(LEFT_0), 2);
        Due.is("and leaves at 76", till(later, 77).ofGate(LEFT_0), 3);
        Due.is("its answer at 77", later.pass(1), 1);
    }

    private static void sender() {
        says("==== 2 Each SENDER: ON THE WAY: how many of its LETTERS were sent and neither DROPPED nor ANSWERED; DELIVERED: how many "
            + "ANSWERS it TOOK; AT: the TICK of the last one (0 at first); LIMIT (0 at first); ROUNDS (0); MARK (0); BEST (0); LEAST "
            + "(none), LEAST AT (0); NEXT (0; thousandths of TICKS).");
        ModelSender x = new ModelSender();
        int[] atFirst = {START, 0, 0, 0, -9, 0, 10, 289, 0, 0, 0, 0, 0, 0};
        for (int s = 0; s <= 1; s++) {
            for (int what = 0; what < atFirst.length; what++) Due.is("ofSender " + what + " at first", x.ofSender(s, what), atFirst[what]);
        }
        Due.is("LEAST AT 0", till(x, 9).model(0, SINCE_LEAST), 9);
        ModelSender y = made(5, 1, 30);
        y.stock(0, 3);
        y.pass(1);
        Due.is("three sent", y.ofSender(0, SENT), 3);
        Due.is("one DROPPED", y.ofSender(0, ON_WAY), 2);
        Due.is("one ANSWERED", till(y, 36).ofSender(0, ON_WAY), 1);
        Due.is("DELIVERED", y.ofSender(0, DELIVERED), 1);
    }

    private static void sends() {
        says("It SENDS: as long as STOCK is above 0,");
        ModelSender x = new ModelSender();
        x.stock(0, 3);
        Due.is("three", till(x, 9).ofSender(0, SENT), 3);
        says("ON THE WAY is less than WINDOW,");
        ModelSender y = new ModelSender();
        y.stock(0, 50);
        Due.is("ten", till(y, 30).ofSender(0, SENT), 10);
        says("NEXT is no more than 1000 times NOW,");
        ModelSender z = answered();
        z.stock(0, 2);
        // Sent at 36: NEXT is 36000 and 100000000 by 28 times 289, which is 12357.
        Due.is("one till 48", till(z, 49).ofSender(0, SENT), 2);
        Due.is("the other at 49", till(z, 50).ofSender(0, SENT), 3);
        says("and it has sent less than 8 in this TICK:");
        ModelSender w = new ModelSender();
        w.stock(0, 50);
        w.stock(1, 2);
        w.pass(1);
        Due.is("eight", w.ofSender(0, SENT), 8);
        says("a LETTER: STOCK is 1 less, the LETTER has the next number (of this SENDER, from 0 on);");
        Due.is("STOCK", w.ofSender(0, STOCK), 42);
        for (int k = 0; k < 8; k++) Due.is("number of letter " + k, w.letter(0, k, 0), k);
        for (int k = 0; k < 2; k++) Due.is("number of the other's letter " + k, w.letter(1, k, 0), k);
        says("if none is ON THE WAY, AT becomes NOW; it keeps SENT (NOW), DELIVERED and AT as they are, and is LIMITED, if LIMIT is "
            + "above 0;");
        Due.is("not LIMITED at first", w.letter(0, 0, 2), 0);
        ModelSender late = answered();
        Scenes.sendAt(late, 100, 101);
        Due.is("SENT", late.letter(0, 0, 1), 100);
        Due.is("LIMITED, as LIMIT is 1", late.letter(0, 0, 2), 1);
        till(late, 136);
        Due.is("RATE from AT 100 on, and from DELIVERED 1 on", late.sample(0, 1, 1), 28);
        says("it COMES to the GATE;");
        Due.is("ten letters: one served, nine wait", w.ofGate(SERVED) + w.ofGate(WAITING), 10);
        says("if BEST is above 0, NEXT becomes the greater of NEXT and 1000 times NOW, then as much more as 100000000 by (BEST times "
            + "GAIN).");
        Due.is("BEST is 0: NEXT stays", w.ofSender(0, AHEAD), 0);
        ModelSender paced = answered();
        Scenes.sendAt(paced, 36, 37);
        Due.is("NEXT is 48357", paced.ofSender(0, AHEAD), 11357);
        says("One that is DROPPED counts as a LOSS; it is the last one sent in this TICK.");
        ModelSender full = made(5, 1, 30);
        full.stock(0, 5);
        full.pass(1);
        Due.is("two found a place, the third is the last", full.ofSender(0, SENT), 3);
        Due.is("a LOSS", full.ofSender(0, LOSSES), 1);
        full.pass(1);
        Due.is("one at 1", full.ofSender(0, SENT), 4);
        Due.is("another LOSS", full.ofSender(0, LOSSES), 2);
        ModelSender lost = answered();
        lost.gate(40, 1, 30);
        lost.guests(1);
        till(lost, 38).stock(0, 2);
        lost.pass(1);
        Due.is("a LOSS at 38", lost.ofSender(0, LOSSES), 1);
        Due.is("NEXT is 50357 for it", lost.ofSender(0, AHEAD), 11357);
        says("Behind that: if STOCK is 0, ON THE WAY is less than WINDOW, and NEXT is no more than 1000 times NOW, LIMIT becomes "
            + "DELIVERED and ON THE WAY together, 1 at least.");
        Due.is("three on the way", x.ofSender(0, LIMIT), 3);
        Due.is("STOCK is not 0", y.ofSender(0, LIMIT), 0);
        Due.is("1 at least", till(new ModelSender(), 1).ofSender(0, LIMIT), 1);
        Due.is("NEXT is more till 48", till(paced, 49).ofSender(0, LIMIT), 1);
        Due.is("one DELIVERED, one ON THE WAY at 49", till(paced, 50).ofSender(0, LIMIT), 2);
        ModelSender ten = new ModelSender();
        ten.stock(0, 10);
        Due.is("as many as WINDOW", till(ten, 30).ofSender(0, LIMIT), 0);
    }

    private static void takes() {
        says("An ANSWER of a LETTER is TAKEN: DELIVERED is 1 more, AT is NOW, one less is ON THE WAY;");
        ModelSender x = Scenes.slow(5000);
        till(x, 145);
        Due.is("six DELIVERED", x.ofSender(0, DELIVERED), 6);
        Due.is("four ON THE WAY", x.ofSender(0, ON_WAY), 4);
        x.pass(1);
        Due.is("seven DELIVERED", x.ofSender(0, DELIVERED), 7);
        Due.is("one less, and one more was sent", x.ofSender(0, ON_WAY), 4);
        Due.is("the 11th", x.letter(0, 3, 0), 10);
        // Sent at 145, AT 145, DELIVERED 7; answered at 225 as the 11th.
        Due.is("its RATE from AT 145 on: 4000 by 80", till(x, 226).sample(0, 10, 1), 50);
        says("if LIMIT is above 0 and DELIVERED above LIMIT, LIMIT becomes 0.");
        ModelSender y = till(new ModelSender(), 1);
        y.stock(0, 50);
        // Sent at 1 and 2, answered at 36, 41 and so on; STOCK is not 0, so LIMIT 1 stays till then.
        Due.is("DELIVERED 1 is not above", till(y, 41).ofSender(0, LIMIT), 1);
        Due.is("DELIVERED 2 is", till(y, 42).ofSender(0, LIMIT), 0);
        says("If the LETTER's DELIVERED is MARK or more, a ROUND begins: ROUNDS is 1 more, MARK becomes DELIVERED.");
        int[] begins = {25, 225, 305, 385, 465};
        ModelSender z = Scenes.slow(5000);
        for (int i = 0; i < begins.length; i++) {
            Due.is("ROUNDS before " + begins[i], till(z, begins[i]).ofSender(0, ROUNDS), i);
            Due.is("a ROUND begins at " + begins[i], till(z, begins[i] + 1).ofSender(0, ROUNDS), i + 1);
        }
        says("RATE of it: 1000 times (DELIVERED less the LETTER's), by NOW less the LETTER's AT (1 at least).");
        // Answers at 25, 45, 65 and so on, all sent with AT 0 and DELIVERED 0: 1000 by 25, 2000 by 45, 3000 by 65.
        int[] rates = {40, 44, 46, 47, 47, 48, 48, 48, 48, 48};
        for (int k = 0; k < rates.length; k++) Due.is("RATE " + k, z.sample(0, k, 1), rates[k]);
        ModelSender quick = made(1, 20, 1);
        Due.is("the quickest", Scenes.sendAt(quick, 0, 3), 1);
        Due.is("1000 by 2", quick.sample(0, 0, 1), 500);
    }

    private static void learns() {
        says("If the LETTER is not LIMITED, or RATE is no less than BEST, a SAMPLE is kept (behind the others): ROUNDS, RATE.");
        ModelSender x = Scenes.forgetful(10);
        int[][] samples = {{1, 28}, {1, 50}};
        for (int k = 0; k < 2; k++) for (int what = 0; what <= 1; what++) Due.is("SAMPLE " + k, x.sample(0, k, what), samples[k][what]);
        Due.is("27 of LIMITED letters is less than BEST", x.sample(0, 2, 0), -1);
        says("SAMPLES whose ROUNDS are 10 or more less than ROUNDS now go.");
        Due.is("ROUNDS", x.ofSender(0, ROUNDS), 10);
        ModelSender y = Scenes.forgetful(11);
        Due.is("none in ROUND 11", y.sample(0, 0, 0), -1);
        says("BEST becomes the greatest RATE of SAMPLES (0, if there is none).");
        Due.is("of 28 and 50", x.ofSender(0, BEST), 50);
        Due.is("of none", y.ofSender(0, BEST), 0);
        says("It is STALE, if LEAST is there and NOW less LEAST AT is above 1000.");
        ModelSender just = answered();
        Scenes.sendAt(just, 1000, 1036);
        Due.is("1000 is not: no PROBE", just.ofSender(0, STATE), START);
        ModelSender above = answered();
        Scenes.sendAt(above, 1001, 1037);
        Due.is("1001 is: PROBE", above.ofSender(0, STATE), PROBE);
        says("If there is no LEAST, or it is STALE, or NOW less SENT is no more than LEAST, LEAST becomes NOW less SENT, LEAST AT "
            + "becomes NOW.");
        ModelSender z = answered();
        least("the first", z, 35, 35);
        z.gate(5, 20, 40);
        Scenes.sendAt(z, 100, 146);
        least("45 is more", z, 35, 35);
        z.gate(5, 20, 30);
        Scenes.sendAt(z, 200, 236);
        least("35 is no more", z, 35, 235);
        z.gate(5, 20, 40);
        Scenes.sendAt(z, 1300, 1346);
        least("45, but STALE", z, 45, 1345);
        says("PRODUCT: BEST times LEAST by 1000 (0, if there is no LEAST).");
        Due.is("no LEAST", new ModelSender().ofSender(0, PRODUCT), 0);
        ModelSender middle = Scenes.middle(5000);
        till(middle, 430);
        Due.is("BEST", middle.ofSender(0, BEST), 100);
        Due.is("LEAST", middle.ofSender(0, LEAST), 40);
        Due.is("100 times 40 by 1000", middle.ofSender(0, PRODUCT), 4);
        says("WINDOW: 4 in PROBE; else 10, if BEST is 0 or there is no LEAST; else 289 times PRODUCT by 100 in START and DRAIN, 2 times "
            + "PRODUCT in CRUISE; but 4 at least.");
        Due.is("in PROBE", above.ofSender(0, WINDOW), 4);
        Due.is("BEST is 0", y.ofSender(0, WINDOW), 10);
        Due.is("no LEAST", new ModelSender().ofSender(0, WINDOW), 10);
        Due.is("in START", middle.ofSender(0, WINDOW), 11);
        Due.is("in DRAIN", till(middle, 431).ofSender(0, WINDOW), 11);
        Due.is("in CRUISE", till(middle, 531).ofSender(0, WINDOW), 8);
        Due.is("4 at least", just.ofSender(0, WINDOW), 4);
        says("GAIN: 289 in START, 35 in DRAIN, 100 in PROBE, in CRUISE by PHASE: 125 in 0, 75 in 1, 100 in 2 to 7.");
        int[][] gains = {{430, 289}, {431, 35}, {531, 100}, {1406, 100}, {1407, 125}, {1447, 75}};
        ModelSender g = Scenes.middle(5000);
        for (int[] one : gains) Due.is("GAIN at " + one[0], till(g, one[0]).ofSender(0, GAIN), one[1]);
        Due.is("GAIN in PROBE", above.ofSender(0, GAIN), 100);
    }

    private static void least(String what, ModelSender x, int least, int at) {
        Due.is(what + ": LEAST", x.ofSender(0, LEAST), least);
        Due.is(what + ": LEAST AT", x.many(0) - x.model(0, SINCE_LEAST), at);
    }

    private static void inPhase(String what, ModelSender x, int phase, int since) {
        Due.is(what + ": CRUISE", x.ofSender(0, STATE), CRUISE);
        Due.is(what + ": PHASE", x.phase(0, 0), phase);
        Due.is(what + ": since when", x.many(0) - x.phase(0, 1), since);
    }

    private static void turnIs(ModelSender x, int k, int tick, int state) {
        Due.is("TICK of TURN " + k, x.turn(0, k, 0), tick);
        Due.is("STATE of TURN " + k, x.turn(0, k, 1), state);
    }

    private static void states() {
        says("==== 3 STATES of a SENDER: 0 START (at first), 1 DRAIN, 2 CRUISE (with a PHASE 0 .. 7, and since when), 3 PROBE (with an "
            + "END, or none yet).");
        ModelSender x = Scenes.slow(5000);
        Due.is("START", x.ofSender(0, STATE), 0);
        says("FULL is no at first, TOP 0, FLAT 0.");
        for (int what = FULL; what <= FLAT; what++) Due.is("model " + what + " at first", x.model(0, what), 0);
        says("With each ANSWER that is TAKEN, behind all that, one after another:");
        ModelSender y = till(Scenes.slow(23), 466);
        turnIs(y, 0, 465, DRAIN);
        turnIs(y, 1, 465, CRUISE);
        says("(a) In START, if a ROUND began with it and its LETTER is not LIMITED: if 100 times BEST is no less than 125 times TOP, TOP "
            + "becomes BEST, FLAT 0; else FLAT is 1 more; if it is 3 then, FULL is yes.");
        int[][] rows = {{26, 40, 0, 0}, {206, 40, 0, 0}, {226, 50, 0, 0}, {306, 50, 1, 0}, {386, 50, 2, 0}, {466, 50, 3, 1}};
        for (int[] row : rows) {
            till(x, row[0]);
            Due.is("TOP", x.model(0, TOP), row[1]);
            Due.is("FLAT", x.model(0, FLAT), row[2]);
            Due.is("FULL", x.model(0, FULL), row[3]);
        }
        ModelSender limited = answered();
        Scenes.sendAt(limited, 100, 136);
        Due.is("a second ROUND, its LETTER LIMITED", limited.ofSender(0, ROUNDS), 2);
        Due.is("FLAT stays", limited.model(0, FLAT), 0);
        says("(b) In START, if FULL is yes: DRAIN.");
        Due.is("DRAIN", x.ofSender(0, STATE), 1);
        turnIs(x, 0, 465, DRAIN);
        says("(c) In DRAIN, if no more than PRODUCT are ON THE WAY: CRUISE, in PHASE 2, since NOW.");
        ModelSender z = till(Scenes.slow(25), 485);
        Due.is("two ON THE WAY, PRODUCT 1: DRAIN", z.ofSender(0, STATE), 1);
        inPhase("one ON THE WAY", till(z, 486), 2, 485);
    }

    private static void phases() {
        says("(d) In CRUISE, LATE: NOW less since when is LEAST or more.");
        // LEAST is 25, PHASE 2 since 465; the last letter leaves at 480.
        ModelSender notYet = till(Scenes.slow(24), 470);
        notYet.gate(20, 60, 9);
        Due.is("an answer at 489", Scenes.till(notYet, 490), 1);
        inPhase("24 TICKS are not LATE", notYet, 2, 465);
        ModelSender late = till(Scenes.slow(24), 470);
        late.gate(20, 60, 10);
        Due.is("an answer at 490", Scenes.till(late, 491), 1);
        inPhase("25 TICKS are LATE", late, 3, 490);
        says("In PHASE 0, if it is LATE, and 4 times ON THE WAY is no less than 5 times PRODUCT or there was a LOSS since then;");
        ModelSender y = Scenes.middle(5000);
        inPhase("30 TICKS of 40, five ON THE WAY", till(y, 1437), 0, 1406);
        inPhase("40 TICKS, five ON THE WAY", till(y, 1447), 1, 1446);
        inPhase("40 TICKS, four ON THE WAY", till(Scenes.middle(145), 1447), 0, 1406);
        ModelSender lost = Scenes.cruising(6);
        inPhase("PHASE 0", lost, 0, 621);
        lost.gate(40, 1, 24);
        lost.guests(1);
        Scenes.sendAt(lost, 624, 625);
        Due.is("a LOSS", lost.ofSender(0, LOSSES), 1);
        lost.guests(0);
        lost.gate(1, 60, 24);
        Due.is("an answer at 725", Scenes.sendAt(lost, 700, 726), 1);
        inPhase("none ON THE WAY, but a LOSS", lost, 1, 725);
        says("in PHASE 1, if it is LATE or no more than PRODUCT are ON THE WAY;");
        ModelSender one = Scenes.cruising(6);
        one.gate(1, 60, 40);
        one.stock(0, 3);
        // Sent at 622, 638, 654; answered at 663, 679, 695.
        inPhase("two ON THE WAY", till(one, 664), 1, 663);
        inPhase("one ON THE WAY, as PRODUCT, after 16 TICKS", till(one, 680), 2, 679);
        ModelSender more = Scenes.cruising(6);
        more.gate(1, 60, 60);
        more.stock(0, 9);
        // Sent at 622, 638, 654, 670, 686, 713; answered at 683, 699, 715.
        inPhase("three ON THE WAY, 16 TICKS", till(more, 700), 1, 683);
        inPhase("three ON THE WAY, 32 TICKS: LATE", till(more, 716), 2, 715);
        says("in others, if it is LATE: the next PHASE (0 behind 7), since NOW.");
        int[] order = {2, 3, 4, 5, 6, 7, 0};
        for (int i = 0; i < order.length; i++) inPhase(i + " on", Scenes.cruising(i), order[i], 465 + 26 * i);
    }

    private static void probe() {
        says("(e) In PROBE: if it has no END, and no more than 4 are ON THE WAY, END becomes NOW and 200;");
        ModelSender x = Scenes.forgetful(11);
        till(x, 1100).stock(0, 8);
        // Answers at 1136, 1141 and so on; the first is STALE, as LEAST is since 35.
        Due.is("PROBE with seven", till(x, 1137).ofSender(0, STATE), PROBE);
        Due.is("no END with five", till(x, 1151).model(0, TO_END), -9);
        Due.is("END is 1351 with four", till(x, 1152).model(0, TO_END), 199);
        says("else, if it has an END and NOW is no less than that: LEAST AT becomes NOW; CRUISE, in PHASE 2, since NOW, if FULL is yes, "
            + "else START.");
        till(x, 1314).gate(5, 20, 32);
        Due.is("an answer at 1351", Scenes.sendAt(x, 1314, 1352), 1);
        Due.is("START", x.ofSender(0, STATE), START);
        least("37 is more than 36", x, 36, 1351);
        ModelSender y = Scenes.cruising(1);
        for (int tick : new int[] {1600, 1700, 1900}) Due.is("an answer", Scenes.sendAt(y, tick, tick + 26), 1);
        turnIs(y, 2, 1625, PROBE);
        turnIs(y, 3, 1925, CRUISE);
        inPhase("FULL is yes", y, 2, 1925);
        says("(f) If it was not in PROBE as it came to (e), and was STALE with this ANSWER: PROBE, without an END.");
        ModelSender z = answered();
        Scenes.sendAt(z, 1100, 1136);
        Due.is("PROBE", z.ofSender(0, STATE), PROBE);
        Due.is("without an END, though none is ON THE WAY", z.model(0, TO_END), -9);
        Scenes.sendAt(z, 2300, 2336);
        Due.is("STALE in PROBE: END is 2535", z.model(0, TO_END), 199);
        Scenes.sendAt(z, 3600, 3636);
        Due.is("STALE as it left PROBE: START", z.ofSender(0, STATE), START);
        says("TURNS: each time that a SENDER comes to another STATE (not PHASE), with its TICK; the last 12 are kept.");
        turnIs(z, 0, 1135, PROBE);
        turnIs(z, 1, 3635, START);
        Due.is("PHASES are none", Scenes.cruising(6).many(3), 2);
        for (int i = 2; i <= 7; i++) {
            for (int add : new int[] {1100, 1200, 1500}) Scenes.sendAt(z, 2000 * i + add, 2000 * i + add + 36);
        }
        Due.is("fourteen TURNS", z.many(3), 14);
        turnIs(z, 0, 5135, PROBE);
        turnIs(z, 11, 15535, START);
        Due.is("twelve are kept", z.turn(0, 12, 0), -1);
    }

    private static void interfaceComments() throws IOException {
        String source = Files.readString(Path.of("src/main/java/ModelSender.java"));
        int at = source.indexOf("public ModelSender()");
        says("Ahead of the calls `gate`, `guests`, `stock`, `pass`, `ofGate`, `busy` the interface says: ---- 1 the gate.");
        at = inOrder(source, at, "---- 1 the gate", "gate", "guests", "stock", "pass", "ofGate", "busy");
        says("Ahead of the calls `ofSender`, `sample`, `best`, `letter` the interface says: ---- 2 senders.");
        at = inOrder(source, at, "---- 2 senders", "ofSender", "sample", "best", "letter");
        says("Ahead of the calls `phase`, `model`, `turn`, `many` the interface says: ---- 3 states.");
        inOrder(source, at, "---- 3 states", "phase", "model", "turn", "many");
    }

    private static int inOrder(String source, int from, String comment, String... calls) {
        int at = source.indexOf("// " + comment, from);
        yes(comment, at >= 0);
        for (String call : calls) {
            int next = source.indexOf(" " + call + "(int ", Math.max(0, at));
            yes(call + " stands behind " + comment, next > at);
            at = next;
        }
        return at;
    }

    private static void promisesOfTheGate() {
        says("## Promise 1: A new object");
        says("`ModelSender()`: NOW 0; STOCKS are empty.");
        ModelSender x = new ModelSender();
        Due.is("NOW", x.many(0), 0);
        for (int s = 0; s <= 1; s++) Due.is("STOCK", x.ofSender(s, STOCK), 0);
        says("## Promise 2: gate");
        says("`int gate(int service, int room, int delay)`: SERVICE, ROOM, DELAY become these (those that wait stay): 1. OUTSIDE.");
        x.stock(0, 5);
        x.pass(1);
        Due.is("gate", x.gate(7, 1, 9), 1);
        Due.is("four wait, though ROOM is 1", x.ofGate(WAITING), 4);
        for (int[] g : new int[][] {{0, 1, 1}, {41, 1, 1}, {1, 0, 1}, {1, 61, 1}, {1, 1, 0}, {1, 1, 201}}) {
            Due.is("gate outside", x.gate(g[0], g[1], g[2]), -2);
        }
        // The first leaves at 5, the second at 12: answered at 14 and 21.
        Due.is("two answers till 21", Scenes.till(x, 14) + 10 * x.pass(1) + 100 * Scenes.till(x, 21) + 1000 * x.pass(1), 1010);
        says("## Promise 3: guests");
        says("`int guests(int v)`: EVERY becomes v: what it was. OUTSIDE.");
        Due.is("was 0", x.guests(200), 0);
        Due.is("was 200", x.guests(0), 200);
        Due.is("-1", x.guests(-1), -2);
        Due.is("201", x.guests(201), -2);
        says("## Promise 4: stock");
        says("`int stock(int s, int n)`: STOCK of a SENDER becomes n more (1 .. 5000): how much it is. UNKNOWN; OUTSIDE; FULL: it would "
            + "be above 100000.");
        ModelSender y = new ModelSender();
        for (int i = 1; i <= 20; i++) Due.is("5000 more", y.stock(1, 5000), 5000 * i);
        Due.is("above 100000", y.stock(1, 1), -4);
        Due.is("0", y.stock(1, 0), -2);
        Due.is("5001", y.stock(1, 5001), -2);
        Due.is("no SENDER", y.stock(-1, 1), -1);
        Due.is("the other", y.stock(0, 1), 1);
        says("## Promise 5: pass");
        says("`int pass(int ticks)`: So many TICKS (1 .. 2000): how many ANSWERS were TAKEN. OUTSIDE.");
        ModelSender z = new ModelSender();
        z.stock(0, 2);
        z.stock(1, 1);
        Due.is("at 35, 40, 45", z.pass(2000), 3);
        Due.is("none any more", z.pass(1), 0);
        Due.is("0", z.pass(0), -2);
        Due.is("2001", z.pass(2001), -2);
        says("## Promise 6: ofGate");
        says("`int ofGate(int what)`: Of the GATE: 0 how many wait, 1 whether a letter is served (1, 0), 2, 3 how many of SENDER 0, 1 "
            + "LEFT, 4 how many GUESTS LEFT, 5 were DROPPED, 6 how many waited at the most at once. OUTSIDE.");
        ModelSender g = made(5, 3, 30);
        g.guests(3);
        g.stock(0, 1);
        g.stock(1, 1);
        // The guest of 0 is served till 5, the letter of 0 till 10, that of 1 till 15, the guest of 3 till 20, the one of 6 from then
        // on, and those of 12, 15, 18 wait; those of 9 and 21 are dropped.
        till(g, 22);
        int[] due = {3, 1, 1, 1, 2, 2, 3};
        for (int what = 0; what < due.length; what++) Due.is("ofGate " + what, g.ofGate(what), due[what]);
        Due.is("7", g.ofGate(7), -2);
        Due.is("-1", g.ofGate(-1), -2);
        says("## Promise 7: busy");
        says("`long busy(int which)`: The share of TICKS that were BUSY, in least terms: the upper (which 0), the lower number (1); 0 of "
            + "1, if NOW is 0. LOST: OUTSIDE.");
        ModelSender b = new ModelSender();
        Due.is("0 of 1", 10 * b.busy(0) + b.busy(1), 1);
        b.stock(0, 1);
        b.pass(15);
        Due.is("5 of 15 are 1 of 3", 10 * b.busy(0) + b.busy(1), 13);
        Due.is("2", b.busy(2), Long.MIN_VALUE);
        Due.is("-1", b.busy(-1), Long.MIN_VALUE);
    }

    private static void promisesOfSenders() {
        says("## Promise 8: ofSender");
        says("`int ofSender(int s, int what)`: Of a SENDER: 0 its STATE, 1 ON THE WAY, 2 DELIVERED, 3 BEST, 4 LEAST (NONE: there is none), "
            + "5 PRODUCT, 6 WINDOW, 7 GAIN, 8 ROUNDS, 9 LOSSES, 10 STOCK, 11 LIMIT, 12 how many were sent, 13 NEXT less 1000 times NOW "
            + "(0, if it is not above). UNKNOWN; OUTSIDE.");
        ModelSender x = answered();
        Scenes.sendAt(x, 36, 37);
        x.stock(0, 7);
        int[] due = {START, 1, 1, 28, 35, 0, 4, 289, 1, 0, 7, 1, 2, 11357};
        for (int what = 0; what < due.length; what++) Due.is("ofSender " + what, x.ofSender(0, what), due[what]);
        Due.is("14", x.ofSender(0, 14), -2);
        Due.is("-1", x.ofSender(0, -1), -2);
        Due.is("no SENDER", x.ofSender(2, 14), -1);
        says("## Promise 9: sample");
        says("`int sample(int s, int k, int what)`: Of the k-th SAMPLE that a SENDER has (the oldest is 0): 0 its ROUNDS, 1 its RATE. "
            + "UNKNOWN: SENDER, SAMPLE; OUTSIDE.");
        ModelSender y = till(Scenes.slow(5000), 226);
        Due.is("the oldest's ROUNDS", y.sample(0, 0, 0), 1);
        Due.is("the oldest's RATE", y.sample(0, 0, 1), 40);
        Due.is("the last one's ROUNDS", y.sample(0, 10, 0), 2);
        Due.is("the last one's RATE", y.sample(0, 10, 1), 50);
        Due.is("no SAMPLE", y.sample(0, 11, 2), -1);
        Due.is("no SAMPLE of the other", y.sample(1, 0, 0), -1);
        Due.is("no SENDER", y.sample(2, 0, 0), -1);
        Due.is("2", y.sample(0, 0, 2), -2);
        says("## Promise 10: best");
        says("`int best(int s, int n)`: The greatest RATE of SAMPLES of the last n ROUNDS (1 .. 10; of n 1 those of ROUNDS as it is now "
            + "alone); NONE: there is none. UNKNOWN; OUTSIDE.");
        ModelSender z = Scenes.forgetful(4);
        // Samples of ROUND 1 alone, and ROUNDS is 4.
        for (int n = 1; n <= 10; n++) Due.is("best of " + n, z.best(0, n), n < 4 ? -9 : 50);
        Due.is("of ROUNDS as it is now", y.best(0, 1), 50);
        Due.is("0", y.best(0, 0), -2);
        Due.is("11", y.best(0, 11), -2);
        Due.is("no SENDER", y.best(2, 0), -1);
        says("## Promise 11: letter");
        says("`int letter(int s, int k, int what)`: Of the k-th LETTER ON THE WAY of a SENDER (the oldest is 0): 0 its number, 1 SENT, 2 "
            + "whether it is LIMITED (1, 0), 3 whether it LEFT the GATE (1, 0). UNKNOWN: SENDER, LETTER; OUTSIDE.");
        ModelSender w = new ModelSender();
        Scenes.sendAt(w, 0, 3);
        Scenes.sendAt(w, 3, 6);
        int[][] letters = {{0, 0, 0, 1}, {1, 3, 1, 0}};
        for (int k = 0; k < 2; k++) for (int what = 0; what < 4; what++) Due.is("letter " + k, w.letter(0, k, what), letters[k][what]);
        Due.is("no LETTER", w.letter(0, 2, 4), -1);
        Due.is("no SENDER", w.letter(2, 0, 0), -1);
        Due.is("4", w.letter(0, 1, 4), -2);
    }

    private static void promisesOfStates() {
        says("## Promise 12: phase");
        says("`int phase(int s, int what)`: Of a SENDER in CRUISE: 0 its PHASE, 1 since how many TICKS; NONE, of both: it is in another "
            + "STATE. UNKNOWN; OUTSIDE.");
        ModelSender x = till(Scenes.cruising(3), 550);
        Due.is("PHASE", x.phase(0, 0), 5);
        Due.is("since 543", x.phase(0, 1), 7);
        for (int what = 0; what <= 1; what++) Due.is("of the other, in START", x.phase(1, what), -9);
        Due.is("2", x.phase(0, 2), -2);
        Due.is("2 of the other", x.phase(1, 2), -2);
        Due.is("no SENDER", x.phase(2, 2), -1);
        says("## Promise 13: model");
        says("`int model(int s, int what)`: Of a SENDER: 0 whether FULL is yes (1, 0), 1 TOP, 2 FLAT, 3 NOW less LEAST AT, 4 END less NOW "
            + "of PROBE (0, if it is not above; NONE: it is not in PROBE, there is none). UNKNOWN; OUTSIDE.");
        int[] due = {1, 50, 3, 550 - 543, -9};
        for (int what = 0; what < due.length; what++) Due.is("model " + what, x.model(0, what), due[what]);
        ModelSender y = answered();
        Scenes.sendAt(y, 1100, 1136);
        Due.is("PROBE without an END", y.model(0, TO_END), -9);
        Scenes.sendAt(y, 1200, 1236);
        Due.is("END is 1435", y.model(0, TO_END), 199);
        Due.is("1 above", till(y, 1434).model(0, TO_END), 1);
        Due.is("not above", till(y, 1435).model(0, TO_END), 0);
        Due.is("below", till(y, 1500).model(0, TO_END), 0);
        Due.is("5", y.model(0, 5), -2);
        Due.is("no SENDER", y.model(2, 5), -1);
        says("## Promise 14: turn");
        says("`int turn(int s, int k, int what)`: Of the k-th TURN that is kept of a SENDER (the oldest is 0): 0 the TICK, 1 the STATE it "
            + "came to. UNKNOWN: SENDER, TURN; OUTSIDE.");
        turnIs(x, 0, 465, DRAIN);
        turnIs(x, 1, 465, CRUISE);
        Due.is("no TURN", x.turn(0, 2, 2), -1);
        Due.is("no TURN of the other", x.turn(1, 0, 0), -1);
        Due.is("no SENDER", x.turn(2, 0, 0), -1);
        Due.is("2", x.turn(0, 1, 2), -2);
        says("## Promise 15: many");
        says("`int many(int what)`: How many: 0 NOW, 1 ANSWERS TAKEN, 2 LOSSES, 3 TURNS there were of both SENDERS, 4 TICKS that were BUSY. "
            + "OUTSIDE.");
        // 23 letters of 20 TICKS each and 3 of one TICK.
        int[] all = {550, 26, 0, 2, 463};
        for (int what = 0; what < all.length; what++) Due.is("many " + what, x.many(what), all[what]);
        Due.is("5", x.many(5), -2);
        Due.is("-1", x.many(-1), -2);
        ModelSender z = made(10, 1, 1);
        for (int s = 0; s <= 1; s++) z.stock(s, 3);
        z.pass(1);
        Due.is("LOSSES of both", z.many(2), 2);
    }

    private static void notPromised() {
        says("## Not promised");
        says("How the state is held inside the object is free, as are the speed of each call, the text of toString and the behaviour of "
            + "equals and hashCode.");
        says("Use of one object from several threads at once is not promised to be safe.");
        says("Nothing is promised beyond the answers and state changes described above, and nothing about an object after its 512th "
            + "call.");
    }
}
