import java.util.ArrayList;
import java.util.HashMap;
import java.util.List;
import java.util.Map;

/** The document once more, as simply as can be, and by other ways than the program's: lists, copies, search through all. */
final class NaiveCounter {
    static final int NONE = -1, OUTSIDE = -3, BUSY = -4, FULL = -5, NOTHING = -11, CAST = -12, INDEX = -13, SIZE = -14;

    private static final class Stock {
        int kind;
        int old;
        int face;
        List<Integer> stamps = new ArrayList<>();
        int[][] sheet;
        boolean[] missing;

        Stock copy() {
            Stock c = new Stock();
            c.kind = kind;
            c.old = old;
            c.face = face;
            c.stamps = new ArrayList<>(stamps);
            if (sheet != null) {
                c.sheet = copyOf(sheet);
                c.missing = missing.clone();
            }
            return c;
        }

        boolean isSheet() {
            return kind == 2 || kind == 3;
        }

        int count() {
            if (!isSheet()) {
                return stamps.size();
            }
            int n = 0;
            for (int[] row : sheet) {
                for (int square : row) {
                    n += square > 0 ? 1 : 0;
                }
            }
            return n;
        }

        int sum() {
            if (isSheet()) {
                return count() * face;
            }
            int sum = 0;
            for (int one : stamps) {
                sum += one;
            }
            return sum;
        }
    }

    private static final class Mail {
        int price;
        boolean paid;
        int sum;
        int[] given = new int[10];
        List<Integer> torn = new ArrayList<>();
        List<Integer> faces = new ArrayList<>();

        Mail copy() {
            Mail c = new Mail();
            c.price = price;
            c.paid = paid;
            c.sum = sum;
            c.given = given.clone();
            c.torn = new ArrayList<>(torn);
            c.faces = new ArrayList<>(faces);
            return c;
        }
    }

    private static final class All {
        Stock[] places = new Stock[10];
        List<List<int[]>> steps = new ArrayList<>();
        int[] extras = new int[4];
        List<Mail> letters = new ArrayList<>();

        All copy() {
            All c = new All();
            for (int i = 0; i < 10; i++) {
                c.places[i] = places[i] == null ? null : places[i].copy();
            }
            for (List<int[]> way : steps) {
                c.steps.add(new ArrayList<>(way));
            }
            c.extras = extras.clone();
            for (Mail one : letters) {
                c.letters.add(one.copy());
            }
            return c;
        }
    }

    private All all = new All();
    private final List<All> kept = new ArrayList<>();
    private final List<Integer> reel = new ArrayList<>();

    NaiveCounter() {
        for (int i = 0; i < 6; i++) {
            all.steps.add(new ArrayList<>());
        }
    }

    private static int[][] copyOf(int[][] sheet) {
        int[][] c = new int[sheet.length][];
        for (int i = 0; i < c.length; i++) {
            c[i] = sheet[i].clone();
        }
        return c;
    }

    private void keep() {
        kept.add(all.copy());
        if (kept.size() > 32) {
            kept.remove(0);
        }
    }

    private static boolean in(int x, int from, int to) {
        return from <= x && x <= to;
    }

    int pile(int place, int face, int n) {
        if (!in(place, 0, 9) || !in(face, 1, 500) || !in(n, 0, 60)) return OUTSIDE;
        if (all.places[place] != null) return BUSY;
        keep();
        put(place, 0, 0, face, n);
        return n;
    }

    int over(int place, int old, int face, int n) {
        if (!in(place, 0, 9) || !in(old, 1, 500) || !in(face, 1, 500) || !in(n, 0, 60)) return OUTSIDE;
        if (all.places[place] != null) return BUSY;
        keep();
        put(place, 4, old, face, n);
        return n;
    }

    private void put(int place, int kind, int old, int face, int n) {
        Stock s = new Stock();
        s.kind = kind;
        s.old = old;
        s.face = face;
        for (int i = 0; i < n; i++) {
            s.stamps.add(face);
        }
        all.places[place] = s;
    }

    int reel(int face) {
        if (!in(face, 1, 500)) return OUTSIDE;
        if (reel.size() == 40) return FULL;
        reel.add(face);
        return reel.size();
    }

    int strip(int place) {
        if (!in(place, 0, 9)) return OUTSIDE;
        if (all.places[place] != null) return BUSY;
        keep();
        put(place, 1, 0, 0, 0);
        all.places[place].stamps.addAll(reel);
        int n = reel.size();
        reel.clear();
        return n;
    }

    int sheet(int place, int kind, int rows, int columns, int face) {
        if (!in(place, 0, 9) || kind != 2 && kind != 3 || !in(face, 1, 500) || rows > 8 || columns > 8) return OUTSIDE;
        if (all.places[place] != null) return BUSY;
        if (rows < 0 || columns < 0) return SIZE;
        if (rows == 0 || columns == 0) return OUTSIDE;
        if (kind == 3 && columns % 2 == 1) return OUTSIDE;
        keep();
        put(place, kind, 0, face, 0);
        Stock s = all.places[place];
        s.sheet = new int[rows][columns];
        for (int[] row : s.sheet) {
            java.util.Arrays.fill(row, face);
        }
        s.missing = new boolean[rows];
        return rows * columns;
    }

    int lack(int place, int row) {
        if (!in(place, 0, 9)) return OUTSIDE;
        Stock s = all.places[place];
        if (s == null) return NOTHING;
        if (!s.isSheet()) return CAST;
        if (!in(row, 0, s.sheet.length - 1)) return INDEX;
        if (s.missing[row]) return NOTHING;
        keep();
        int n = s.count();
        s.missing[row] = true;
        java.util.Arrays.fill(s.sheet[row], 0);
        return n - s.count();
    }

    int clear(int place) {
        if (!in(place, 0, 9)) return OUTSIDE;
        if (all.places[place] == null) return NOTHING;
        keep();
        all.places[place] = null;
        return 1;
    }

    int look(int place, int kind, int a, int b) {
        if (!in(place, 0, 9) || !in(kind, 0, 4)) return OUTSIDE;
        Stock s = all.places[place];
        if (s == null) return NOTHING;
        if (kind == 0) return s.count();
        boolean isOf = kind == s.kind || kind == 2 && s.kind == 3;
        if (!isOf) return CAST;
        if (kind == 4) return s.old;
        if (kind == 1) return in(a, 0, s.stamps.size() - 1) ? s.stamps.get(a) : INDEX;
        if (!in(a, 0, s.sheet.length - 1)) return INDEX;
        if (s.missing[a]) return NOTHING;
        int[] row = s.sheet[a];
        if (kind == 2) return in(b, 0, row.length - 1) ? row[b] : INDEX;
        return in(b, 0, row.length / 2 - 1) ? row[2 * b] + row[2 * b + 1] : INDEX;
    }

    int holding(int place, int what) {
        if (!in(place, 0, 9) || !in(what, 0, 4)) return OUTSIDE;
        Stock s = all.places[place];
        if (s == null) return NOTHING;
        int n = s.count();
        if (what == 0) return s.kind;
        if (what == 1) return n;
        if (what == 2) return s.kind != 1 ? s.face : n == 0 ? 0 : s.stamps.get(n - 1);
        if (what == 3) return s.sum();
        return s.isSheet() ? pieces(s.sheet) : n == 0 ? 0 : 1;
    }

    private static int pieces(int[][] sheet) {
        int[][] left = copyOf(sheet);
        int pieces = 0;
        for (int r = 0; r < left.length; r++) {
            for (int k = 0; k < left[r].length; k++) {
                if (left[r][k] > 0) {
                    pieces++;
                    takeOff(left, r, k);
                }
            }
        }
        return pieces;
    }

    private static void takeOff(int[][] left, int r, int k) {
        if (r < 0 || r >= left.length || k < 0 || k >= left[r].length || left[r][k] == 0) return;
        left[r][k] = 0;
        takeOff(left, r - 1, k);
        takeOff(left, r + 1, k);
        takeOff(left, r, k - 1);
        takeOff(left, r, k + 1);
    }

    int rate(int way, int grams, int price) {
        if (!in(way, 0, 5) || !in(grams, 1, 5000) || !in(price, 1, 1200)) return OUTSIDE;
        List<int[]> steps = all.steps.get(way);
        if (!steps.isEmpty()) {
            int[] last = steps.get(steps.size() - 1);
            if (grams <= last[0] || price <= last[1]) return OUTSIDE;
        }
        if (steps.size() == 8) return FULL;
        keep();
        all.steps.get(way).add(new int[] {grams, price});
        return steps.size();
    }

    int extra(int k, int price) {
        if (!in(k, 0, 3) || !in(price, 0, 200)) return OUTSIDE;
        keep();
        int old = all.extras[k];
        all.extras[k] = price;
        return old;
    }

    int grams(float weight) {
        if (!(weight >= 0 && weight <= 1000000)) return OUTSIDE;
        return new java.math.BigDecimal((double) weight).setScale(0, java.math.RoundingMode.CEILING).intValueExact();
    }

    int price(int way, float weight, int extras) {
        int grams = grams(weight);
        if (!in(way, 0, 5) || grams < 0 || !in(extras, 0, 15)) return OUTSIDE;
        for (int[] step : all.steps.get(way)) {
            if (grams <= step[0]) {
                int price = step[1];
                for (int k = 0; k < 4; k++) {
                    price += (extras & 1 << k) != 0 ? all.extras[k] : 0;
                }
                return price;
            }
        }
        return NONE;
    }

    int letter(int way, float weight, int extras) {
        int price = price(way, weight, extras);
        if (price < 0) return price;
        if (all.letters.size() == 60) return FULL;
        keep();
        Mail m = new Mail();
        m.price = price;
        all.letters.add(m);
        return all.letters.size() - 1;
    }

    private int total() {
        int sum = 0;
        for (Stock s : all.places) {
            sum += s == null ? 0 : s.sum();
        }
        return sum;
    }

    /** For each sum the best choice, places 0 .. 9 and last the number of stamps; a choice is bettered place by place. */
    private Map<Integer, int[]> choices(int most) {
        Map<Integer, int[]> best = new HashMap<>();
        best.put(0, new int[11]);
        for (int place = 0; place < 10; place++) {
            Stock s = all.places[place];
            if (s == null) continue;
            Map<Integer, int[]> next = new HashMap<>();
            for (Map.Entry<Integer, int[]> e : best.entrySet()) {
                int pays = e.getKey();
                for (int n = 0; n <= s.count() && pays <= most; n++) {
                    if (s.kind != 3 || n % 2 == 0) {
                        int[] c = e.getValue().clone();
                        c[place] = n;
                        c[10] += n;
                        int[] had = next.get(pays);
                        if (had == null || isBetter(c, had)) next.put(pays, c);
                    }
                    if (n < s.count()) pays += s.isSheet() ? s.face : s.stamps.get(s.stamps.size() - 1 - n);
                }
            }
            best = next;
        }
        return best;
    }

    private static boolean isBetter(int[] c, int[] than) {
        if (c[10] != than[10]) return c[10] < than[10];
        for (int place = 0; place < 10; place++) {
            if (c[place] != than[place]) return c[place] > than[place];
        }
        return false;
    }

    int pay(int letter) {
        if (!in(letter, 0, all.letters.size() - 1)) return OUTSIDE;
        if (all.letters.get(letter).paid) return BUSY;
        int price = all.letters.get(letter).price;
        if (total() < price) return NONE;
        Map<Integer, int[]> choices = choices(3100);
        int sum = price;
        while (!choices.containsKey(sum)) sum++;
        keep();
        Mail m = all.letters.get(letter);
        m.paid = true;
        m.sum = sum;
        for (int place = 0; place < 10; place++) {
            int n = choices.get(sum)[place];
            m.given[place] = n;
            if (n > 0) give(all.places[place], place, n, m);
        }
        return sum;
    }

    private static void give(Stock s, int place, int n, Mail m) {
        if (!s.isSheet()) {
            for (int i = 0; i < n; i++) {
                m.faces.add(s.stamps.remove(s.stamps.size() - 1));
            }
            return;
        }
        int columns = s.sheet[0].length;
        for (int square : chosen(s, n)) {
            s.sheet[square / columns][square % columns] = 0;
            m.torn.add(100 * place + square);
            m.faces.add(s.face);
        }
    }

    private static List<Integer> chosen(Stock s, int n) {
        int columns = s.sheet[0].length;
        int step = s.kind == 3 ? 2 : 1;
        List<Integer> units = new ArrayList<>();
        for (int square = 0; square < s.sheet.length * columns; square += step) {
            if (s.sheet[square / columns][square % columns] > 0) units.add(square);
        }
        int wanted = n / step;
        List<Integer> firsts = new ArrayList<>();
        if (wanted > 2) {
            firsts.addAll(units.subList(units.size() - wanted, units.size()));
        } else {
            int fewest = Integer.MAX_VALUE;
            for (int i = 0; i < units.size(); i++) {
                for (int j = wanted == 1 ? i : i + 1; j < (wanted == 1 ? i + 1 : units.size()); j++) {
                    int[][] rest = copyOf(s.sheet);
                    for (int k = 0; k < step; k++) {
                        rest[units.get(i) / columns][units.get(i) % columns + k] = 0;
                        rest[units.get(j) / columns][units.get(j) % columns + k] = 0;
                    }
                    int pieces = pieces(rest);
                    if (pieces < fewest) {
                        fewest = pieces;
                        firsts.clear();
                        firsts.add(units.get(i));
                        if (j != i) firsts.add(units.get(j));
                    }
                }
            }
        }
        List<Integer> squares = new ArrayList<>();
        for (int first : firsts) {
            for (int k = 0; k < step; k++) squares.add(first + k);
        }
        return squares;
    }

    int told(int letter, int what) {
        if (!in(letter, 0, all.letters.size() - 1) || !in(what, 0, 5)) return OUTSIDE;
        Mail m = all.letters.get(letter);
        if (what == 0) return m.price;
        if (what == 1) return m.sum;
        if (what == 2) return m.paid ? m.sum - m.price : 0;
        if (what == 3) return m.faces.size();
        if (what == 4) return m.paid || total() >= m.price ? 0 : m.price - total();
        return m.paid ? 1 : 0;
    }

    int given(int letter, int place) {
        if (!in(letter, 0, all.letters.size() - 1) || !in(place, 0, 9)) return OUTSIDE;
        return all.letters.get(letter).given[place];
    }

    int torn(int letter, int i) {
        if (!in(letter, 0, all.letters.size() - 1)) return OUTSIDE;
        List<Integer> torn = all.letters.get(letter).torn;
        return in(i, 0, torn.size() - 1) ? torn.get(i) : NONE;
    }

    int fewest(int sum) {
        if (!in(sum, 0, 2500)) return OUTSIDE;
        int[] choice = choices(2500).get(sum);
        return choice == null ? NONE : choice[10];
    }

    int least(int price) {
        if (!in(price, 0, 2000)) return OUTSIDE;
        Map<Integer, int[]> choices = choices(3100);
        for (int sum = price; sum <= 3100; sum++) {
            if (choices.containsKey(sum)) return sum;
        }
        return NONE;
    }

    int day(int what) {
        if (!in(what, 0, 9)) return OUTSIDE;
        if (what == 0) return all.letters.size();
        if (what == 8) return reel.size();
        if (what == 9) return kept.size();
        int n = 0;
        for (Mail m : all.letters) {
            if (m.paid && what <= 4) n += what == 1 ? 1 : what == 2 ? m.price : what == 3 ? m.sum : m.faces.size();
        }
        for (Stock s : all.places) {
            if (s == null || what < 5) continue;
            n += what == 5 ? s.count() : what == 6 ? s.sum() : s.isSheet() ? pieces(s.sheet) : 0;
        }
        return n;
    }

    int gone(int face) {
        if (!in(face, 1, 500)) return OUTSIDE;
        int n = 0;
        for (Mail m : all.letters) {
            for (int one : m.faces) {
                n += one == face ? 1 : 0;
            }
        }
        return n;
    }

    int undo() {
        if (kept.isEmpty()) return NONE;
        all = kept.remove(kept.size() - 1);
        return kept.size();
    }
}
