import java.util.Random;

/** Runs of calls by chance (with seeds that are always the same), each answered as the naive counter answers it. */
public final class NaiveTest {
    /** An object is used for 512 calls at most; after pay() there are some thirty at once. */
    private static final int RUNS = 700, CALLS = 512 - 30;

    private final Random random;
    private final int run;
    /** Few faces, so that many choices pay the same. */
    private final int[] faces;
    private final PostageCounter x = new PostageCounter();
    private final NaiveCounter y = new NaiveCounter();
    private int letters = 0;
    private int calls = 0;

    private NaiveTest(int run) {
        this.run = run;
        random = new Random(run);
        int highest = run % 5 == 0 ? 500 : run % 5 == 1 ? 10 : run % 5 == 2 ? 100 : run % 5 == 3 ? 30 : 300;
        faces = new int[1 + random.nextInt(5)];
        for (int i = 0; i < faces.length; i++) {
            faces[i] = 1 + random.nextInt(highest);
        }
    }

    public static void main(String[] args) {
        for (int run = 0; run < RUNS; run++) {
            new NaiveTest(run).callByCall();
        }
        Due.end("NaiveTest");
    }

    private void callByCall() {
        while (calls < CALLS) {
            int which = random.nextInt(100);
            if (which < 34) {
                drawer(which);
            } else if (which < 46) {
                rates(which);
            } else {
                mail(which);
            }
            letters = y.day(0);
        }
    }

    private void due(String call, int got, int want) {
        calls++;
        Due.is("run " + run + ": " + call, got, want);
    }

    /** Now and then a number far outside. */
    private int some(int from, int to) {
        int luck = random.nextInt(200);
        if (luck == 0) {
            return from - 1;
        }
        if (luck == 1) {
            return to + 1;
        }
        if (luck == 2) {
            return random.nextInt();
        }
        return from + random.nextInt(to - from + 1);
    }

    private int face() {
        return random.nextInt(8) == 0 ? some(1, 500) : faces[random.nextInt(faces.length)];
    }

    private void drawer(int which) {
        int place = some(0, 9);
        int face = face();
        int a = some(0, 8);
        int b = some(0, 8);
        if (which < 3) {
            int n = some(0, random.nextInt(3) == 0 ? 60 : 9);
            due("pile", x.pile(place, face, n), y.pile(place, face, n));
        } else if (which < 5) {
            int old = some(1, 500);
            int n = some(0, 12);
            due("over", x.over(place, old, face, n), y.over(place, old, face, n));
        } else if (which < 10) {
            due("reel", x.reel(face), y.reel(face));
        } else if (which < 12) {
            due("strip", x.strip(place), y.strip(place));
        } else if (which < 18) {
            int kind = some(2, 3);
            int rows = random.nextInt(30) == 0 ? a - 3 : a;
            int columns = kind == 3 && b > 0 && random.nextInt(9) > 0 ? b / 2 * 2 : b;
            due("sheet", x.sheet(place, kind, rows, columns, face), y.sheet(place, kind, rows, columns, face));
        } else if (which < 21) {
            due("lack", x.lack(place, a), y.lack(place, a));
        } else if (which < 23) {
            due("clear", x.clear(place), y.clear(place));
        } else if (which < 29) {
            int kind = some(0, 4);
            due("look", x.look(place, kind, a, b), y.look(place, kind, a, b));
        } else {
            int what = some(0, 4);
            due("holding", x.holding(place, what), y.holding(place, what));
        }
    }

    private void rates(int which) {
        int way = some(0, random.nextInt(4) == 0 ? 5 : 1);
        float weight = random.nextInt(12) == 0 ? random.nextFloat() * 1100000f - 1000f : random.nextFloat() * 300f;
        if (which < 39) {
            int last = random.nextInt(300);
            int grams = some(1, last + 1);
            int price = random.nextInt(10) == 0 ? some(1, 1200) : some(1, last + 5);
            due("rate", x.rate(way, grams, price), y.rate(way, grams, price));
        } else if (which < 41) {
            int k = some(0, 3);
            int price = some(0, 200);
            due("extra", x.extra(k, price), y.extra(k, price));
        } else if (which < 43) {
            due("grams", x.grams(weight), y.grams(weight));
        } else {
            int extras = some(0, 15);
            due("price", x.price(way, weight, extras), y.price(way, weight, extras));
        }
    }

    private void mail(int which) {
        int letter = some(0, Math.max(0, letters - 1));
        int place = some(0, 9);
        if (which < 56) {
            int way = some(0, 1);
            float weight = random.nextInt(20) == 0 ? Float.NaN : random.nextFloat() * 200f;
            int extras = random.nextInt(3) == 0 ? some(0, 15) : 0;
            due("letter", x.letter(way, weight, extras), y.letter(way, weight, extras));
        } else if (which < 68) {
            payAndAsk(letter);
        } else if (which < 73) {
            int what = some(0, 5);
            due("told", x.told(letter, what), y.told(letter, what));
        } else if (which < 77) {
            due("given", x.given(letter, place), y.given(letter, place));
        } else if (which < 81) {
            int i = some(0, 12);
            due("torn", x.torn(letter, i), y.torn(letter, i));
        } else if (which < 84) {
            int sum = some(0, random.nextInt(5) == 0 ? 2500 : 300);
            due("fewest", x.fewest(sum), y.fewest(sum));
        } else if (which < 86) {
            int price = some(0, random.nextInt(5) == 0 ? 2000 : 300);
            due("least", x.least(price), y.least(price));
        } else if (which < 92) {
            int what = some(0, 9);
            due("day", x.day(what), y.day(what));
        } else if (which < 95) {
            int face = face();
            due("gone", x.gone(face), y.gone(face));
        } else {
            due("undo", x.undo(), y.undo());
        }
    }

    private void payAndAsk(int letter) {
        int sum = y.pay(letter);
        due("pay", x.pay(letter), sum);
        if (sum < 0) {
            return;
        }
        for (int place = 0; place < 10; place++) {
            due("given", x.given(letter, place), y.given(letter, place));
            due("pieces", x.holding(place, 4), y.holding(place, 4));
        }
        for (int i = 0; i < 8; i++) {
            due("torn", x.torn(letter, i), y.torn(letter, i));
        }
    }
}
