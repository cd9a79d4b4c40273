import java.util.function.ToIntFunction;

/**
 * Weights, in grams(), price() and letter() alike: "A weight counts as the least whole number of grams that is not below
 * it", and "OUTSIDE: it is not 0 .. 1,000,000 (that is asked of weights everywhere)". The grams that are due are reckoned
 * in whole numbers of parts of a gram, so that no rounding of the test's own hides one of the program's.
 */
public final class WeightsTest {
    private static final int NONE = -1, OUTSIDE = -3, FULL = -5;
    private static final float MOST = 1000000f;

    /** In way 0 a STEP for each 1, 2, .. 8 grams, at 10 for each of them; in way 1 one for 5000; in way 2 none. */
    private static final int BY_GRAM = 0, HEAVY = 1, NO_STEPS = 2;

    public static void main(String[] args) {
        gramsOfParts();
        gramsOfAllNextToWhole();
        gramsOfTheLeast();
        priceBetweenWholeGrams();
        letterBetweenWholeGrams();
        atTheLastStep();
        beyondAndNoNumber();
        beyondBeforeOthers();
        Due.end("WeightsTest");
    }

    private static PostageCounter counter() {
        PostageCounter x = new PostageCounter();
        for (int grams = 1; grams <= 8; grams++) {
            x.rate(BY_GRAM, grams, 10 * grams);
        }
        x.rate(HEAVY, 5000, 1200);
        x.extra(0, 3);
        return x;
    }

    // ---- between whole grams

    private static void gramsOfParts() {
        for (int parts = 2; parts <= 1024; parts *= 2) {
            for (int from : new int[] {0, 1, 2, 7, 255, 999, 4096, 5000, 8191}) {
                PostageCounter x = new PostageCounter();
                for (int i = 0; i <= Math.min(parts, 500); i++) {
                    float weight = from + (float) i / parts;
                    Due.is("13 grams(" + weight + ")", x.grams(weight), from + (i + parts - 1) / parts);
                }
            }
        }
    }

    private static void gramsOfAllNextToWhole() {
        PostageCounter x = new PostageCounter();
        int calls = 0;
        for (int whole = 1; whole < 1000000; whole += whole < 3000 ? 1 : 997) {
            if (calls > 500) {
                x = new PostageCounter();
                calls = 0;
            }
            float weight = whole;
            Due.is("13 below " + whole, x.grams(Math.nextDown(weight)), whole);
            Due.is("13 at " + whole, x.grams(weight), whole);
            Due.is("13 above " + whole, x.grams(Math.nextUp(weight)), whole + 1);
            calls += 3;
        }
        Due.is("13 next below the most", x.grams(Math.nextDown(MOST)), 1000000);
        Due.is("13 the most", x.grams(MOST), 1000000);
    }

    private static void gramsOfTheLeast() {
        for (float weight : new float[] {Float.MIN_VALUE, Float.MIN_NORMAL, 1e-30f, 0.001f, 0.1f, 0.99f, 1f}) {
            PostageCounter x = counter();
            Due.is("13 grams(" + weight + ")", x.grams(weight), 1);
            Due.is("14 of " + weight, x.price(BY_GRAM, weight, 0), 10);
            Due.is("15 of " + weight, x.letter(BY_GRAM, weight, 0), 0);
            Due.is("15 its price", x.told(0, 0), 10);
        }
        for (float weight : new float[] {0f, -0f}) {
            PostageCounter x = counter();
            Due.is("13 nothing is weighed", x.grams(weight), 0);
            Due.is("14 nothing is weighed", x.price(BY_GRAM, weight, 0), 10);
            Due.is("15 nothing is weighed", x.letter(BY_GRAM, weight, 0), 0);
            Due.is("15 its price", x.told(0, 0), 10);
        }
    }

    private static void priceBetweenWholeGrams() {
        PostageCounter x = counter();
        for (int eighths = 0; eighths <= 8 * 10; eighths++) {
            int grams = Math.max(1, (eighths + 7) / 8);
            float weight = eighths / 8f;
            Due.is("14 of " + weight, x.price(BY_GRAM, weight, 0), grams <= 8 ? 10 * grams : NONE);
            Due.is("14 with an extra", x.price(BY_GRAM, weight, 1), grams <= 8 ? 10 * grams + 3 : NONE);
        }
    }

    private static void letterBetweenWholeGrams() {
        for (int sixteenths = 0; sixteenths <= 16 * 9; sixteenths++) {
            int grams = Math.max(1, (sixteenths + 15) / 16);
            float weight = sixteenths / 16f;
            PostageCounter x = counter();
            Due.is("15 of " + weight, x.letter(BY_GRAM, weight, 1), grams <= 8 ? 0 : NONE);
            Due.is("15 its price", x.told(0, 0), grams <= 8 ? 10 * grams + 3 : OUTSIDE);
            Due.is("15 letters", x.day(0), grams <= 8 ? 1 : 0);
        }
    }

    private static void atTheLastStep() {
        for (float weight : new float[] {4999f, 4999.0005f, 4999.5f, Math.nextDown(5000f), 5000f}) {
            PostageCounter x = counter();
            Due.is("14 of " + weight, x.price(HEAVY, weight, 0), 1200);
            Due.is("15 of " + weight, x.letter(HEAVY, weight, 0), 0);
        }
        for (float weight : new float[] {Math.nextUp(5000f), 5000.25f, 5001f, 999999.5f, Math.nextDown(MOST), MOST}) {
            PostageCounter x = counter();
            Due.is("14 of " + weight, x.price(HEAVY, weight, 0), NONE);
            Due.is("15 of " + weight, x.letter(HEAVY, weight, 0), NONE);
        }
    }

    // ---- what is not 0 .. 1,000,000, or no number at all

    private static float[] noWeights() {
        return new float[] {
            -Float.MIN_VALUE, -Float.MIN_NORMAL, -0.001f, -0.25f, -0.5f, -0.75f, Math.nextUp(-1f), -1f, -20f, -MOST, -1e10f,
            -Float.MAX_VALUE, Float.NEGATIVE_INFINITY,
            Math.nextUp(MOST), 1000000.25f, 1000001f, 2147483520f, 2147483648f, 4294967296f, 1e20f, Float.MAX_VALUE,
            Float.POSITIVE_INFINITY,
            Float.NaN, Float.intBitsToFloat(0x7f800001), Float.intBitsToFloat(0x7fffffff), Float.intBitsToFloat(0xff800001),
            Float.intBitsToFloat(0xffffffff), 0f / zero(), Float.POSITIVE_INFINITY - Float.POSITIVE_INFINITY
        };
    }

    private static float zero() {
        return 0f;
    }

    private static void beyondAndNoNumber() {
        for (float weight : noWeights()) {
            for (int way : new int[] {BY_GRAM, HEAVY}) {
                PostageCounter x = counter();
                int acts = x.day(9);
                Due.is("13 grams(" + weight + ")", x.grams(weight), OUTSIDE);
                Due.is("14 of " + weight, x.price(way, weight, 0), OUTSIDE);
                Due.is("15 of " + weight, x.letter(way, weight, 0), OUTSIDE);
                Due.is("15 no letter is made", x.day(0), 0);
                Due.is("15 no act", x.day(9), acts);
                Due.is("15 the next one has its number", x.letter(way, 0.5f, 0), 0);
                Due.is("15 and its price", x.told(0, 0), way == BY_GRAM ? 10 : 1200);
            }
        }
    }

    private static void beyondBeforeOthers() {
        PostageCounter full = counter();
        for (int i = 0; i < 60; i++) {
            full.letter(BY_GRAM, 0.5f, 0);
        }
        for (float weight : noWeights()) {
            is("before none", x -> x.price(NO_STEPS, weight, 0), OUTSIDE);
            is("before none", x -> x.letter(NO_STEPS, weight, 0), OUTSIDE);
            is("with a way that is none", x -> x.price(6, weight, 0), OUTSIDE);
            is("with extras that are none", x -> x.letter(BY_GRAM, weight, 16), OUTSIDE);
            Due.is("before full", full.letter(BY_GRAM, weight, 0), OUTSIDE);
        }
        Due.is("full", full.letter(BY_GRAM, 0.5f, 0), FULL);
    }

    private static void is(String what, ToIntFunction<PostageCounter> call, int due) {
        Due.is(what, call.applyAsInt(counter()), due);
    }
}
