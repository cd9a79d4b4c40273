import java.util.Arrays;
import java.util.Random;

/**
 * PAYING, word by word: all CHOICES of small drawers (by chance, with a seed that is always the same) are gone through,
 * and that one is taken that pays not less, then least, with the fewest stamps, most from place 0, from place 1, and so on.
 */
public final class ChoiceTest {
    private static final int NONE = -1, PLAIN = 0, STRIP = 1, PAIR = 3, OVER = 4;
    private static final int DRAWERS = 12000, PLACES = 10, MOST_SUM = 2500, MOST_PRICE = 2000;
    private static final int[] HIGHEST_FACES = {6, 12, 40, 500};

    private final Random random;
    private final PostageCounter x = new PostageCounter();
    private final int highestFace;
    /** The FACES of the stamps at each place, in the order in which they are given; null: it holds nothing. */
    private final int[][] stamps = new int[PLACES][];
    private final boolean[] inPairs = new boolean[PLACES];

    private final int price;
    /** For each sum the fewest stamps; four places hold 12 stamps at most, each of 500. */
    private final int[] fewest = new int[4 * 12 * 500 + 1];
    private final int[] choice = new int[PLACES];
    private int[] best = null;
    private int bestSum = 0;
    private int bestStamps = 0;

    private ChoiceTest(Random random, int highestFace) {
        this.random = random;
        this.highestFace = highestFace;
        price = some(1, Math.min(1200, 10 * highestFace));
    }

    public static void main(String[] args) {
        Random random = new Random(16);
        int paid = 0;
        for (int i = 0; i < DRAWERS; i++) {
            ChoiceTest one = new ChoiceTest(random, HIGHEST_FACES[i % HIGHEST_FACES.length]);
            one.fill();
            paid += one.sumsAreRight() ? 1 : 0;
        }
        Due.is("many are paid", paid > DRAWERS / 3 ? 1 : 0, 1);
        Due.end("ChoiceTest");
    }

    private int some(int from, int to) {
        return from + random.nextInt(to - from + 1);
    }

    private int face() {
        return some(1, highestFace);
    }

    private void fill() {
        for (int i = some(1, 4); i > 0; i--) {
            int place = some(0, PLACES - 1);
            if (stamps[place] == null) {
                put(place, some(0, 4));
            }
        }
    }

    private void put(int place, int kind) {
        int face = face();
        int n = some(0, 6);
        if (kind == PLAIN) {
            x.pile(place, face, n);
        } else if (kind == OVER) {
            x.over(place, some(1, 500), face, n);
        } else if (kind != STRIP) {
            int rows = some(1, 3);
            int columns = kind == PAIR ? 2 * some(1, 2) : some(1, 4);
            inPairs[place] = kind == PAIR;
            n = x.sheet(place, kind, rows, columns, face) - (some(0, 3) == 0 ? x.lack(place, some(0, rows - 1)) : 0);
        }
        stamps[place] = new int[n];
        Arrays.fill(stamps[place], face);
        if (kind == STRIP) {
            for (int i = n - 1; i >= 0; i--) {
                stamps[place][i] = face();
                x.reel(stamps[place][i]);
            }
            x.strip(place);
        }
    }

    /** Whether the letter could be paid. */
    private boolean sumsAreRight() {
        Arrays.fill(fewest, NONE);
        search(0, 0, 0);
        for (int i = 0; i < 6; i++) {
            int sum = some(0, Math.min(MOST_PRICE, 10 * highestFace));
            Due.is("20 fewest(" + sum + ") of " + drawer(), x.fewest(sum), fewest[sum]);
            Due.is("21 least(" + sum + ") of " + drawer(), x.least(sum), leastFrom(sum));
        }
        Due.is("20 of the greatest sum", x.fewest(MOST_SUM), fewest[MOST_SUM]);
        x.rate(0, 1, price);
        x.letter(0, 1f, 0);
        Due.is("16 " + price + " of " + drawer(), x.pay(0), best == null ? NONE : bestSum);
        for (int place = 0; place < PLACES; place++) {
            int due = best == null ? 0 : best[place];
            Due.is("18 from " + place + " for " + price + " of " + drawer(), x.given(0, place), due);
        }
        return best != null;
    }

    private String drawer() {
        return Arrays.deepToString(stamps);
    }

    private int leastFrom(int least) {
        for (int sum = least; sum < fewest.length; sum++) {
            if (fewest[sum] != NONE) {
                return sum;
            }
        }
        return NONE;
    }

    private void search(int place, int sum, int count) {
        if (place == PLACES) {
            meet(sum, count);
            return;
        }
        int[] here = stamps[place] == null ? new int[0] : stamps[place];
        int with = sum;
        for (int n = 0; n <= here.length; n++) {
            if (!inPairs[place] || n % 2 == 0) {
                choice[place] = n;
                search(place + 1, with, count + n);
            }
            with += n < here.length ? here[n] : 0;
        }
    }

    private void meet(int sum, int count) {
        fewest[sum] = fewest[sum] == NONE ? count : Math.min(fewest[sum], count);
        if (sum >= price && (best == null || isBetter(sum, count))) {
            best = choice.clone();
            bestSum = sum;
            bestStamps = count;
        }
    }

    private boolean isBetter(int sum, int count) {
        if (sum != bestSum) {
            return sum < bestSum;
        }
        return count != bestStamps ? count < bestStamps : Arrays.compare(choice, best) > 0;
    }
}
