/** Promises 11 to 15. */
public final class RatesTest {
    private static final int NONE = -1, OUTSIDE = -3, FULL = -5;

    public static void main(String[] args) {
        rate();
        extra();
        grams();
        price();
        letter();
        Due.end("RatesTest");
    }

    private static void rate() {
        PostageCounter x = new PostageCounter();
        Due.is("11 way -1", x.rate(-1, 1, 1), OUTSIDE);
        Due.is("11 way 6", x.rate(6, 1, 1), OUTSIDE);
        Due.is("11 grams 0", x.rate(0, 0, 1), OUTSIDE);
        Due.is("11 grams 5001", x.rate(0, 5001, 1), OUTSIDE);
        Due.is("11 price 0", x.rate(0, 1, 0), OUTSIDE);
        Due.is("11 price 1201", x.rate(0, 1, 1201), OUTSIDE);
        Due.is("11 least", x.rate(0, 1, 1), 1);
        Due.is("11 greatest", x.rate(5, 5000, 1200), 1);
        Due.is("11 none above", x.rate(5, 5001, 1201), OUTSIDE);
        Due.is("11 same grams", x.rate(0, 1, 2), OUTSIDE);
        Due.is("11 same price", x.rate(0, 2, 1), OUTSIDE);
        for (int step = 2; step <= 8; step++) {
            Due.is("11 step " + step, x.rate(0, step, step), step);
        }
        Due.is("11 outside before full", x.rate(0, 8, 9), OUTSIDE);
        Due.is("11 outside before full, price", x.rate(0, 9, 8), OUTSIDE);
        Due.is("11 full", x.rate(0, 9, 9), FULL);
        Due.is("11 another way", x.rate(1, 9, 9), 1);
        Due.is("11 acts", x.day(9), 10);
        Due.is("11 the refused one is not there", x.price(0, 9f, 0), NONE);
    }

    private static void extra() {
        PostageCounter x = new PostageCounter();
        Due.is("12 k -1", x.extra(-1, 1), OUTSIDE);
        Due.is("12 k 4", x.extra(4, 1), OUTSIDE);
        Due.is("12 price -1", x.extra(0, -1), OUTSIDE);
        Due.is("12 price 201", x.extra(0, 201), OUTSIDE);
        Due.is("12 first", x.extra(3, 200), 0);
        Due.is("12 then", x.extra(3, 0), 200);
        Due.is("12 again", x.extra(3, 0), 0);
        Due.is("12 the same is an act, too", x.day(9), 3);
    }

    private static void grams() {
        PostageCounter x = new PostageCounter();
        Due.is("13 0", x.grams(0f), 0);
        Due.is("13 -0", x.grams(-0f), 0);
        Due.is("13 least above 0", x.grams(Float.MIN_VALUE), 1);
        Due.is("13 below 0", x.grams(-Float.MIN_VALUE), OUTSIDE);
        Due.is("13 half", x.grams(0.5f), 1);
        Due.is("13 1", x.grams(1f), 1);
        Due.is("13 just above 1", x.grams(Math.nextUp(1f)), 2);
        Due.is("13 just below 20", x.grams(Math.nextDown(20f)), 20);
        Due.is("13 20.25", x.grams(20.25f), 21);
        Due.is("13 999999.94", x.grams(Math.nextDown(1000000f)), 1000000);
        Due.is("13 1000000", x.grams(1000000f), 1000000);
        Due.is("13 above", x.grams(Math.nextUp(1000000f)), OUTSIDE);
        Due.is("13 -1", x.grams(-1f), OUTSIDE);
        Due.is("13 no number", x.grams(Float.NaN), OUTSIDE);
        Due.is("13 endless", x.grams(Float.POSITIVE_INFINITY), OUTSIDE);
        Due.is("13 endless below", x.grams(Float.NEGATIVE_INFINITY), OUTSIDE);
        Due.is("13 no act", x.day(9), 0);
    }

    private static void price() {
        PostageCounter x = new PostageCounter();
        x.rate(2, 20, 85);
        x.rate(2, 50, 100);
        x.extra(0, 1);
        x.extra(1, 10);
        x.extra(2, 100);
        x.extra(3, 200);
        Due.is("14 0 grams", x.price(2, 0f, 0), 85);
        Due.is("14 at the step", x.price(2, 20f, 0), 85);
        Due.is("14 above the step", x.price(2, 20.01f, 0), 100);
        Due.is("14 at the last", x.price(2, 50f, 0), 100);
        Due.is("14 above the last", x.price(2, 50.5f, 0), NONE);
        Due.is("14 above the last with extras", x.price(2, 50.5f, 15), NONE);
        Due.is("14 another way", x.price(1, 1f, 0), NONE);
        int[] cost = {1, 10, 100, 200};
        for (int extras = 0; extras <= 15; extras++) {
            int due = 85;
            for (int k = 0; k < 4; k++) {
                due += (extras >> k) % 2 * cost[k];
            }
            Due.is("14 extras " + extras, x.price(2, 5f, extras), due);
        }
        Due.is("14 way -1", x.price(-1, 1f, 0), OUTSIDE);
        Due.is("14 way 6", x.price(6, 1f, 0), OUTSIDE);
        Due.is("14 weight", x.price(2, -1f, 0), OUTSIDE);
        Due.is("14 weight no number", x.price(2, Float.NaN, 0), OUTSIDE);
        Due.is("14 weight before none", x.price(2, 1000001f, 0), OUTSIDE);
        Due.is("14 extras 16", x.price(2, 1f, 16), OUTSIDE);
        Due.is("14 extras -1", x.price(2, 1f, -1), OUTSIDE);
        Due.is("14 extras before none", x.price(1, 1f, 16), OUTSIDE);
    }

    private static void letter() {
        PostageCounter x = new PostageCounter();
        x.rate(0, 10, 30);
        x.extra(1, 5);
        Due.is("15 way", x.letter(6, 1f, 0), OUTSIDE);
        Due.is("15 weight", x.letter(0, Float.NaN, 0), OUTSIDE);
        Due.is("15 extras", x.letter(0, 1f, 16), OUTSIDE);
        Due.is("15 none", x.letter(0, 11f, 0), NONE);
        Due.is("15 first", x.letter(0, 10f, 2), 0);
        x.extra(1, 50);
        x.rate(0, 20, 70);
        Due.is("15 second", x.letter(0, 10f, 2), 1);
        Due.is("15 its price is that of then", x.told(0, 0), 35);
        Due.is("15 that of now", x.told(1, 0), 80);
        Due.is("15 not paid", x.told(1, 5), 0);
        for (int number = 2; number < 60; number++) {
            Due.is("15 letter " + number, x.letter(0, 15f, 0), number);
        }
        Due.is("15 full", x.letter(0, 1f, 0), FULL);
        Due.is("15 none before full", x.letter(0, 21f, 0), NONE);
        Due.is("15 outside before full", x.letter(0, 1f, 16), OUTSIDE);
        Due.is("15 all", x.day(0), 60);
        Due.is("15 the last", x.told(59, 0), 70);
        Due.is("15 no more", x.told(60, 0), OUTSIDE);
    }
}
