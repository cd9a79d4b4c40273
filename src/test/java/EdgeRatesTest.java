/**
 * Promises 11 to 15 and RATES, sentence by sentence where one names an edge: the last number that is taken and the first
 * one that is refused, empty and full, which refusal comes first, and that what refuses or finds changes nothing.
 */
public final class EdgeRatesTest {
    private static final int NONE = Scene.NONE, OUTSIDE = Scene.OUTSIDE, FULL = Scene.FULL;
    private static final int[] WAYS_BEYOND = Scene.beyond(0, 5), EXTRAS_BEYOND = Scene.beyond(0, 15);
    private static final float MOST = 1000000f;
    private static final float[] WEIGHTS_BEYOND = {
        -Float.MIN_VALUE, -0.5f, -1f, -MOST, -2147483648f, -Float.MAX_VALUE, Float.NEGATIVE_INFINITY,
        Math.nextUp(MOST), 1000000.5f, 1000001f, 2147483648f, 4294967296f, 4294967297f, Float.MAX_VALUE, Float.POSITIVE_INFINITY,
        Float.NaN, Float.intBitsToFloat(0xffc00001)
    };

    private static final Scene EMPTY = Scene.EMPTY, RICH = Scene.RICH;
    /** Way 2 has 8 STEPS, way 3 has 7: of 10, 20, .. grams for 5, 10, .. */
    private static final Scene STEPS = new Scene("steps", x -> {
        for (int step = 1; step <= 8; step++) {
            x.rate(2, 10 * step, 5 * step);
        }
        for (int step = 1; step <= 7; step++) {
            x.rate(3, 10 * step, 5 * step);
        }
        x.extra(0, 1);
        x.extra(1, 20);
        x.extra(2, 100);
        x.extra(3, 200);
    });
    private static final Scene FULL_OF_LETTERS = new Scene("60 letters", x -> letters(x, 60));
    private static final Scene ROOM_FOR_ONE = new Scene("59 letters", x -> letters(x, 59));

    public static void main(String[] args) {
        rateTakes();
        rateOutside();
        rateAboveTheStepBefore();
        rateFull();
        extraTakes();
        extraOutside();
        gramsAreWhole();
        gramsOutside();
        priceOfTheFirstStep();
        priceWithExtras();
        priceOutside();
        priceNone();
        letterNumbers();
        letterKeepsItsPrice();
        letterOutsideAndNone();
        letterFull();
        Due.end("EdgeRatesTest");
    }

    /** All but the first are dear; of those that are paid there are two. */
    private static void letters(PostageCounter x, int count) {
        x.rate(0, 1, 5);
        x.pile(0, 5, 2);
        for (int i = 0; i < count; i++) {
            x.letter(0, 1f, 0);
        }
        x.pay(0);
        x.pay(count - 1);
    }

    // ---- 11: "One STEP more of a WAY: how many it has."

    private static void rateTakes() {
        for (int way = 0; way <= 5; way++) {
            int its = way;
            EMPTY.act("11 way " + way, x -> x.rate(its, 20, 85), 1);
        }
        for (int grams : new int[] {1, 2, 4999, 5000}) {
            for (int price : new int[] {1, 2, 1199, 1200}) {
                EMPTY.act("11 " + grams + " grams for " + price, x -> x.rate(5, grams, price), 1);
                PostageCounter x = new PostageCounter();
                x.rate(5, grams, price);
                Due.is("11 its price", x.price(5, grams, 0), price);
                Due.is("11 and no more grams", x.price(5, grams + 0.5f, 0), NONE);
            }
        }
        STEPS.act("11 the last step", x -> x.rate(3, 71, 36), 8);
        STEPS.act("11 the greatest", x -> x.rate(3, 5000, 1200), 8);
        STEPS.act("11 the first of another way", x -> x.rate(4, 1, 1), 1);
    }

    // ---- 11: "OUTSIDE: way, grams (1 .. 5000, above those of the STEP before), price (1 .. 1200, above that of the STEP before); FULL."

    private static void rateOutside() {
        for (int way : WAYS_BEYOND) {
            EMPTY.same("11 way " + way, x -> x.rate(way, 20, 85), OUTSIDE);
            STEPS.same("11 way " + way, x -> x.rate(way, 5000, 1200), OUTSIDE);
        }
        for (int grams : Scene.beyond(1, 5000)) {
            EMPTY.same("11 grams " + grams, x -> x.rate(0, grams, 85), OUTSIDE);
            STEPS.same("11 grams " + grams, x -> x.rate(3, grams, 1200), OUTSIDE);
        }
        for (int price : Scene.beyond(1, 1200)) {
            EMPTY.same("11 price " + price, x -> x.rate(0, 20, price), OUTSIDE);
            STEPS.same("11 price " + price, x -> x.rate(3, 5000, price), OUTSIDE);
        }
    }

    private static void rateAboveTheStepBefore() {
        for (int grams : new int[] {1, 10, 11, 69, 70}) {
            STEPS.same("11 not above: " + grams + " grams", x -> x.rate(3, grams, 1200), OUTSIDE);
        }
        for (int price : new int[] {1, 5, 6, 34, 35}) {
            STEPS.same("11 not above: price " + price, x -> x.rate(3, 5000, price), OUTSIDE);
        }
        STEPS.act("11 above by one", x -> x.rate(3, 71, 36), 8);
        Scene greatest = new Scene("greatest step", x -> x.rate(1, 5000, 1200));
        greatest.same("11 none is above", x -> x.rate(1, 5000, 1200), OUTSIDE);
        greatest.same("11 none is above", x -> x.rate(1, 5001, 1201), OUTSIDE);
        Scene greatestGrams = new Scene("greatest grams", x -> x.rate(1, 5000, 1));
        greatestGrams.same("11 no grams are above", x -> x.rate(1, 5000, 1200), OUTSIDE);
        Scene greatestPrice = new Scene("greatest price", x -> x.rate(1, 1, 1200));
        greatestPrice.same("11 no price is above", x -> x.rate(1, 5000, 1200), OUTSIDE);
        Due.is("11 the step before of that way alone", greatest.made().rate(2, 1, 1), 1);
    }

    private static void rateFull() {
        for (int way = 0; way <= 5; way++) {
            PostageCounter x = new PostageCounter();
            for (int step = 1; step <= 8; step++) {
                Due.is("11 step " + step, x.rate(way, step, step), step);
            }
            Due.is("11 the first that is not taken", x.rate(way, 9, 9), FULL);
            Due.is("11 another way", x.rate((way + 1) % 6, 9, 9), 1);
            x.undo();
            x.undo();
            Due.is("11 room again", x.rate(way, 8, 8), 8);
        }
        STEPS.same("11 full", x -> x.rate(2, 81, 41), FULL);
        STEPS.same("11 full", x -> x.rate(2, 5000, 1200), FULL);
        for (int grams : new int[] {80, 79, 0, -1, 5001, Scene.LOW, Scene.HIGH}) {
            STEPS.same("11 outside before full: grams", x -> x.rate(2, grams, 41), OUTSIDE);
        }
        for (int price : new int[] {40, 39, 0, -1, 1201, Scene.LOW, Scene.HIGH}) {
            STEPS.same("11 outside before full: price", x -> x.rate(2, 81, price), OUTSIDE);
        }
    }

    // ---- 12: "EXTRA k costs 0 .. 200: what it did. OUTSIDE."

    private static void extraTakes() {
        int[] did = {1, 20, 100, 200};
        for (int k = 0; k <= 3; k++) {
            int it = k;
            for (int price : new int[] {0, 1, 199, 200}) {
                EMPTY.act("12 extra " + k, x -> x.extra(it, price), 0);
                STEPS.act("12 extra " + k, x -> x.extra(it, price), did[it]);
                PostageCounter x = STEPS.made();
                x.extra(k, price);
                for (int other = 0; other <= 3; other++) {
                    int due = 5 + (other == k ? price : did[other]);
                    Due.is("12 that one alone", x.price(2, 1f, 1 << other), due);
                }
                Due.is("12 what it did", x.extra(k, 7), price);
            }
        }
        STEPS.act("12 the same again is an act, too", x -> x.extra(3, 200), 200);
    }

    private static void extraOutside() {
        for (int k : Scene.beyond(0, 3)) {
            EMPTY.same("12 extra " + k, x -> x.extra(k, 1), OUTSIDE);
            STEPS.same("12 extra " + k, x -> x.extra(k, 1), OUTSIDE);
        }
        for (int price : Scene.beyond(0, 200)) {
            EMPTY.same("12 price " + price, x -> x.extra(0, price), OUTSIDE);
            STEPS.same("12 price " + price, x -> x.extra(3, price), OUTSIDE);
        }
    }

    // ---- 13: "Whole grams of a weight." "A weight counts as the least whole number of grams that is not below it."

    private static void gramsAreWhole() {
        RICH.same("13 nothing", x -> x.grams(0f), 0);
        RICH.same("13 nothing, from below", x -> x.grams(-0f), 0);
        RICH.same("13 the least above", x -> x.grams(Float.MIN_VALUE), 1);
        RICH.same("13 the most", x -> x.grams(MOST), 1000000);
        RICH.same("13 nearly the most", x -> x.grams(Math.nextDown(MOST)), 1000000);
        for (int whole : new int[] {1, 2, 3, 9, 10, 255, 256, 4095, 4096, 5000, 32767, 32768, 65535, 65536, 524288, 999998, 999999}) {
            PostageCounter x = new PostageCounter();
            Due.is("13 whole", x.grams(whole), whole);
            Due.is("13 just below", x.grams(Math.nextDown((float) whole)), whole);
            Due.is("13 just above", x.grams(Math.nextUp((float) whole)), whole + 1);
            Due.is("13 half more", x.grams(whole + 0.5f), whole + 1);
            Due.is("13 half less", x.grams(whole - 0.5f), whole);
        }
    }

    // ---- 13: "OUTSIDE: it is not 0 .. 1,000,000 (that is asked of weights everywhere)."

    private static void gramsOutside() {
        for (float weight : WEIGHTS_BEYOND) {
            EMPTY.same("13 weight " + weight, x -> x.grams(weight), OUTSIDE);
            STEPS.same("13 weight " + weight, x -> x.grams(weight), OUTSIDE);
            STEPS.same("13 of price(): " + weight, x -> x.price(2, weight, 0), OUTSIDE);
            STEPS.same("13 of letter(): " + weight, x -> x.letter(2, weight, 0), OUTSIDE);
            EMPTY.same("14 weight before none: " + weight, x -> x.price(2, weight, 0), OUTSIDE);
            EMPTY.same("15 weight before none: " + weight, x -> x.letter(2, weight, 0), OUTSIDE);
            FULL_OF_LETTERS.same("15 weight before full: " + weight, x -> x.letter(0, weight, 0), OUTSIDE);
        }
    }

    // ---- 14: "The PRICE of a letter": "that of the first STEP of its WAY whose GRAMS are not below the letter's"

    private static void priceOfTheFirstStep() {
        for (int step = 1; step <= 8; step++) {
            float grams = 10 * step;
            int due = 5 * step;
            int next = step == 8 ? NONE : due + 5;
            STEPS.same("14 at the step", x -> x.price(2, grams, 0), due);
            STEPS.same("14 just below it", x -> x.price(2, Math.nextDown(grams), 0), due);
            STEPS.same("14 just above it", x -> x.price(2, Math.nextUp(grams), 0), next);
            STEPS.same("14 a gram more", x -> x.price(2, grams + 1, 0), next);
        }
        STEPS.same("14 nothing is weighed", x -> x.price(2, 0f, 0), 5);
        STEPS.same("14 nothing is weighed, from below", x -> x.price(2, -0f, 0), 5);
        STEPS.same("14 nearly nothing", x -> x.price(2, Float.MIN_VALUE, 0), 5);
        PostageCounter x = new PostageCounter();
        x.rate(5, 1, 1);
        x.rate(5, 5000, 1200);
        Due.is("14 one gram", x.price(5, 1f, 0), 1);
        Due.is("14 above one gram", x.price(5, Math.nextUp(1f), 0), 1200);
        Due.is("14 the most grams", x.price(5, 5000f, 0), 1200);
        Due.is("14 above them", x.price(5, Math.nextUp(5000f), 0), NONE);
        Due.is("14 the greatest weight", x.price(5, MOST, 0), NONE);
    }

    // ---- 14: "with the prices of its EXTRAS (0 .. 3, told as bits 1, 2, 4, 8 ..)", "extras (0 .. 15)"

    private static void priceWithExtras() {
        int[] cost = {1, 20, 100, 200};
        for (int extras = 0; extras <= 15; extras++) {
            int its = extras;
            int due = 5;
            for (int k = 0; k < 4; k++) {
                due += (extras >> k) % 2 * cost[k];
            }
            int sum = due;
            STEPS.same("14 extras " + extras, x -> x.price(2, 10f, its), sum);
            STEPS.act("15 extras " + extras, x -> x.letter(2, 10f, its), 0);
            PostageCounter x = STEPS.made();
            x.letter(2, 10f, extras);
            Due.is("15 its price with extras " + extras, x.told(0, 0), sum);
        }
        PostageCounter x = new PostageCounter();
        x.rate(0, 5000, 1200);
        for (int k = 0; k <= 3; k++) {
            x.extra(k, 200);
        }
        Due.is("14 the greatest price", x.price(0, 5000f, 15), 2000);
    }

    // ---- 14: "OUTSIDE: way, weight, extras (0 .. 15); NONE: no STEP is for so many grams."

    private static void priceOutside() {
        for (int way : WAYS_BEYOND) {
            EMPTY.same("14 way " + way, x -> x.price(way, 1f, 0), OUTSIDE);
            STEPS.same("14 way " + way, x -> x.price(way, 1f, 0), OUTSIDE);
            EMPTY.same("15 way " + way, x -> x.letter(way, 1f, 0), OUTSIDE);
            STEPS.same("15 way " + way, x -> x.letter(way, 1f, 0), OUTSIDE);
        }
        for (int extras : EXTRAS_BEYOND) {
            STEPS.same("14 extras " + extras, x -> x.price(2, 1f, extras), OUTSIDE);
            STEPS.same("14 extras before none, too heavy", x -> x.price(2, 81f, extras), OUTSIDE);
            STEPS.same("14 extras before none, no step", x -> x.price(0, 1f, extras), OUTSIDE);
            STEPS.same("15 extras " + extras, x -> x.letter(2, 1f, extras), OUTSIDE);
            STEPS.same("15 extras before none", x -> x.letter(2, 81f, extras), OUTSIDE);
        }
    }

    private static void priceNone() {
        for (int extras : new int[] {0, 1, 15}) {
            for (float weight : new float[] {Math.nextUp(80f), 80.5f, 81f, 5000f, 5001f, MOST}) {
                STEPS.same("14 too heavy: " + weight, x -> x.price(2, weight, extras), NONE);
                STEPS.same("15 too heavy: " + weight, x -> x.letter(2, weight, extras), NONE);
            }
            for (int way : new int[] {0, 1, 4, 5}) {
                STEPS.same("14 a way without steps", x -> x.price(way, 0f, extras), NONE);
                STEPS.same("15 a way without steps", x -> x.letter(way, 0f, extras), NONE);
            }
        }
    }

    // ---- 15: "A new letter, not paid; its PRICE is that of now, for ever: its number, 0, 1, .."

    private static void letterNumbers() {
        STEPS.act("15 the first", x -> x.letter(2, 80f, 0), 0);
        RICH.act("15 the third", x -> x.letter(0, 20f, 0), 2);
        RICH.act("15 at a step", x -> x.letter(0, 50f, 15), 2);
        ROOM_FOR_ONE.act("15 the last", x -> x.letter(0, 1f, 0), 59);
        PostageCounter x = ROOM_FOR_ONE.made();
        x.letter(0, 1f, 0);
        int[] due = {5, 0, 0, 0, 5, 0};
        for (int what = 0; what <= 5; what++) {
            Due.is("15 not paid: told " + what, x.told(59, what), due[what]);
        }
        Due.is("15 letters", x.day(0), 60);
    }

    private static void letterKeepsItsPrice() {
        PostageCounter x = STEPS.made();
        x.letter(2, 10f, 15);
        x.letter(3, 75f, 0);
        Due.is("15 none is made when there is no price", x.told(1, 0), OUTSIDE);
        x.extra(3, 0);
        x.rate(3, 80, 1000);
        x.letter(2, 10f, 15);
        x.letter(3, 75f, 0);
        Due.is("15 that of then", x.told(0, 0), 326);
        Due.is("15 that of now", x.told(1, 0), 126);
        Due.is("15 that of now, with the new step", x.told(2, 0), 1000);
        x.undo();
        x.undo();
        x.undo();
        x.undo();
        Due.is("15 for ever", x.told(0, 0), 326);
    }

    // ---- 15: "As for price(); FULL: there are 60 (asked at last)."

    private static void letterOutsideAndNone() {
        for (int way : Scene.justBeyond(0, 5)) {
            FULL_OF_LETTERS.same("15 way before full", x -> x.letter(way, 1f, 0), OUTSIDE);
        }
        for (int extras : Scene.justBeyond(0, 15)) {
            FULL_OF_LETTERS.same("15 extras before full", x -> x.letter(0, 1f, extras), OUTSIDE);
            FULL_OF_LETTERS.same("15 extras before none and full", x -> x.letter(0, 2f, extras), OUTSIDE);
        }
        FULL_OF_LETTERS.same("15 none before full: too heavy", x -> x.letter(0, 2f, 0), NONE);
        FULL_OF_LETTERS.same("15 none before full: no step", x -> x.letter(1, 1f, 0), NONE);
    }

    private static void letterFull() {
        FULL_OF_LETTERS.same("15 full", x -> x.letter(0, 1f, 0), FULL);
        FULL_OF_LETTERS.same("15 full, with extras", x -> x.letter(0, 0f, 15), FULL);
        Due.is("15 there are 60", FULL_OF_LETTERS.made().day(0), 60);
        Due.is("15 paid ones are there, too", FULL_OF_LETTERS.made().day(1), 2);
        PostageCounter x = FULL_OF_LETTERS.made();
        x.undo();
        x.undo();
        Due.is("15 still full", x.letter(0, 1f, 0), FULL);
        x.undo();
        Due.is("15 room again", x.letter(0, 1f, 0), 59);
        Due.is("15 full again", x.letter(0, 1f, 0), FULL);
    }
}
