/** A counter where letters are weighed and stamped from what is in the drawer; see the document. */
public final class PostageCounter {
    public static final int NONE = -1, OUTSIDE = -3, BUSY = -4, FULL = -5, NOTHING = -11, CAST = -12, INDEX = -13, SIZE = -14;

    private static final int PLAIN = 0, STRIP = 1, BLOCK = 2, PAIR = 3, OVER = 4;
    private static final int PLACES = 10, WAYS = 6, EXTRAS = 4, ALL_EXTRAS = 15;
    private static final int MOST_FACE = 500, MOST_LOOSE = 60, MOST_REEL = 40, MOST_SIDE = 8, SQUARES = 64;
    private static final int MOST_STEPS = 8, MOST_GRAMS = 5000, MOST_STEP_PRICE = 1200, MOST_EXTRA_PRICE = 200;
    private static final int MOST_WEIGHT = 1000000, MOST_LETTERS = 60, MOST_PRICE = 2000, MOST_SUM = 2500, MOST_ACTS = 32;
    /** The most that stamps which are given together pay: a pair of the greatest face. */
    private static final int MOST_TOGETHER = 2 * MOST_FACE;

    private final Choices choices = new Choices();
    private final int[] reelFaces = new int[MOST_REEL];
    private int reelCount = 0;
    private State now = emptyState();
    private final State[] before = new State[MOST_ACTS];
    private int acts = 0;

    public PostageCounter() {
    }

    // ---- the drawer

    public int pile(int place, int face, int n) {
        if (!isPlace(place) || !isFace(face) || !within(n, 0, MOST_LOOSE)) {
            return OUTSIDE;
        }
        return putNew(place, new Plain(face, n));
    }

    public int over(int place, int old, int face, int n) {
        if (!isPlace(place) || !isFace(old) || !isFace(face) || !within(n, 0, MOST_LOOSE)) {
            return OUTSIDE;
        }
        return putNew(place, new Over(old, face, n));
    }

    public int reel(int face) {
        if (!isFace(face)) {
            return OUTSIDE;
        }
        if (reelCount >= MOST_REEL) {
            return FULL;
        }
        reelFaces[reelCount] = face;
        reelCount++;
        return reelCount;
    }

    public int strip(int place) {
        if (!isPlace(place)) {
            return OUTSIDE;
        }
        if (now.places[place] != null) {
            return BUSY;
        }
        int count = reelCount;
        reelCount = 0;
        return putNew(place, new Strip(reelFaces.clone(), count));
    }

    public int sheet(int place, int kind, int rows, int columns, int face) {
        if (!isPlace(place) || !within(kind, BLOCK, PAIR) || !isFace(face) || rows > MOST_SIDE || columns > MOST_SIDE) {
            return OUTSIDE;
        }
        if (now.places[place] != null) {
            return BUSY;
        }
        if (rows < 0 || columns < 0) {
            return SIZE;
        }
        if (rows == 0 || columns == 0 || kind == PAIR && columns % 2 != 0) {
            return OUTSIDE;
        }
        long all = -1L >>> (SQUARES - rows * columns);
        return putNew(place, kind == PAIR ? new Pair(face, rows, columns, 0, all) : new Block(face, rows, columns, 0, all));
    }

    public int lack(int place, int row) {
        if (!isPlace(place)) {
            return OUTSIDE;
        }
        Plain there = now.places[place];
        if (there == null) {
            return NOTHING;
        }
        if (!(there instanceof Block)) {
            return CAST;
        }
        Block whole = (Block) there;
        int refusal = whole.refusalOfRow(row);
        if (refusal < 0) {
            return refusal;
        }
        Block rest = whole.withoutRow(row);
        act(now.withPlace(place, rest));
        return whole.count - rest.count;
    }

    public int clear(int place) {
        if (!isPlace(place)) {
            return OUTSIDE;
        }
        if (now.places[place] == null) {
            return NOTHING;
        }
        act(now.withPlace(place, null));
        return 1;
    }

    public int look(int place, int kind, int a, int b) {
        if (!isPlace(place) || !within(kind, PLAIN, OVER)) {
            return OUTSIDE;
        }
        Plain there = now.places[place];
        if (there == null) {
            return NOTHING;
        }
        switch (kind) {
            case STRIP: return there instanceof Strip ? ((Strip) there).stampAt(a) : CAST;
            case BLOCK: return there instanceof Block ? ((Block) there).squareAt(a, b) : CAST;
            case PAIR: return there instanceof Pair ? ((Pair) there).pairAt(a, b) : CAST;
            case OVER: return there instanceof Over ? ((Over) there).old : CAST;
            default: return there.count;
        }
    }

    public int holding(int place, int what) {
        if (!isPlace(place) || !within(what, 0, 4)) {
            return OUTSIDE;
        }
        Plain there = now.places[place];
        if (there == null) {
            return NOTHING;
        }
        switch (what) {
            case 0: return there.kind();
            case 1: return there.count;
            case 2: return there.face;
            case 3: return there.worth(there.count);
            default: return there.pieces();
        }
    }

    // ---- rates

    public int rate(int way, int grams, int price) {
        if (!isWay(way)) {
            return OUTSIDE;
        }
        Way steps = now.ways[way];
        if (!within(grams, steps.lastGrams() + 1, MOST_GRAMS) || !within(price, steps.lastPrice() + 1, MOST_STEP_PRICE)) {
            return OUTSIDE;
        }
        if (steps.count >= MOST_STEPS) {
            return FULL;
        }
        act(now.withWay(way, steps.withStep(grams, price)));
        return now.ways[way].count;
    }

    public int extra(int k, int price) {
        if (!within(k, 0, EXTRAS - 1) || !within(price, 0, MOST_EXTRA_PRICE)) {
            return OUTSIDE;
        }
        int old = now.extras[k];
        act(now.withExtra(k, price));
        return old;
    }

    public int grams(float weight) {
        return isWeight(weight) ? wholeGrams(weight) : OUTSIDE;
    }

    public int price(int way, float weight, int extras) {
        if (!isWay(way) || !isWeight(weight) || !within(extras, 0, ALL_EXTRAS)) {
            return OUTSIDE;
        }
        int ofStep = now.ways[way].priceFor(wholeGrams(weight));
        return ofStep == NONE ? NONE : ofStep + now.costOf(extras);
    }

    // ---- letters

    public int letter(int way, float weight, int extras) {
        int due = price(way, weight, extras);
        if (due < 0) {
            return due;
        }
        int number = now.letters.length;
        if (number >= MOST_LETTERS) {
            return FULL;
        }
        act(now.withLetter(new Letter(due, null)));
        return number;
    }

    public int pay(int letter) {
        if (!isLetter(letter)) {
            return OUTSIDE;
        }
        Letter due = now.letters[letter];
        if (due.payment != null) {
            return BUSY;
        }
        int sum = leastFrom(due.price);
        if (sum == NONE) {
            return NONE;
        }
        int[] counts = choices.countsFor(now.places, sum);
        act(now.withPayment(letter, new Payment(sum, now.places, counts, Payment.tearings(now.places, counts))));
        return sum;
    }

    public int told(int letter, int what) {
        if (!isLetter(letter) || !within(what, 0, 5)) {
            return OUTSIDE;
        }
        Letter it = now.letters[letter];
        switch (what) {
            case 0: return it.price;
            case 1: return it.payment == null ? 0 : it.payment.sum;
            case 2: return it.payment == null ? 0 : it.payment.sum - it.price;
            case 3: return it.payment == null ? 0 : it.payment.stamps();
            case 4: return it.payment != null ? 0 : Math.max(0, it.price - now.worth());
            default: return it.payment == null ? 0 : 1;
        }
    }

    public int given(int letter, int place) {
        if (!isLetter(letter) || !isPlace(place)) {
            return OUTSIDE;
        }
        Payment payment = now.letters[letter].payment;
        return payment == null ? 0 : payment.counts[place];
    }

    public int torn(int letter, int i) {
        if (!isLetter(letter)) {
            return OUTSIDE;
        }
        Payment payment = now.letters[letter].payment;
        return payment == null ? NONE : payment.tornSquare(i);
    }

    public int fewest(int sum) {
        if (!within(sum, 0, MOST_SUM)) {
            return OUTSIDE;
        }
        if (sum > now.worth()) {
            return NONE;
        }
        choices.reckon(now.places, sum);
        return choices.stampsFor(sum);
    }

    public int least(int price) {
        return within(price, 0, MOST_PRICE) ? leastFrom(price) : OUTSIDE;
    }

    public int day(int what) {
        switch (what) {
            case 0: return now.letters.length;
            case 1: case 2: case 3: case 4: return dayOfPaid(what);
            case 5: return now.stamps();
            case 6: return now.worth();
            case 7: return now.piecesOfSheets();
            case 8: return reelCount;
            case 9: return acts;
            default: return OUTSIDE;
        }
    }

    public int gone(int face) {
        if (!isFace(face)) {
            return OUTSIDE;
        }
        int stamps = 0;
        for (Letter one : now.letters) {
            if (one.payment != null) {
                stamps += one.payment.stampsOf(face);
            }
        }
        return stamps;
    }

    public int undo() {
        if (acts <= 0) {
            return NONE;
        }
        acts--;
        now = before[acts];
        return acts;
    }

    // ---- what the calls share

    private static boolean within(int x, int least, int most) {
        return x >= least && x <= most;
    }

    private static boolean isPlace(int place) {
        return within(place, 0, PLACES - 1);
    }

    private static boolean isFace(int face) {
        return within(face, 1, MOST_FACE);
    }

    private static boolean isWay(int way) {
        return within(way, 0, WAYS - 1);
    }

    private boolean isLetter(int letter) {
        return within(letter, 0, now.letters.length - 1);
    }

    /** Written so that what is no number is no weight. */
    private static boolean isWeight(float weight) {
        return weight >= 0f && weight <= (float) MOST_WEIGHT;
    }

    private static int wholeGrams(float weight) {
        int down = (int) weight;
        return (float) down < weight ? down + 1 : down;
    }

    private static State emptyState() {
        Way[] ways = new Way[WAYS];
        Way none = new Way(new int[0], new int[0]);
        for (int way = 0; way < WAYS; way++) {
            ways[way] = none;
        }
        return new State(new Plain[PLACES], new Letter[0], ways, new int[EXTRAS]);
    }

    private int putNew(int place, Plain holding) {
        if (now.places[place] != null) {
            return BUSY;
        }
        act(now.withPlace(place, holding));
        return holding.count;
    }

    private void act(State next) {
        if (acts >= MOST_ACTS) {
            for (int i = 1; i < MOST_ACTS; i++) {
                before[i - 1] = before[i];
            }
            acts = MOST_ACTS - 1;
        }
        before[acts] = now;
        acts++;
        now = next;
    }

    /** The choices stay reckoned behind it, so that pay() can ask for the one that pays so much. */
    private int leastFrom(int price) {
        int all = now.worth();
        if (all < price) {
            return NONE;
        }
        // A choice that pays still more could do without some stamps that are given together.
        choices.reckon(now.places, Math.min(all, price + MOST_TOGETHER - 1));
        return choices.firstSum(price);
    }

    private int dayOfPaid(int what) {
        int total = 0;
        for (Letter one : now.letters) {
            if (one.payment != null) {
                switch (what) {
                    case 1: total++; break;
                    case 2: total += one.price; break;
                    case 3: total += one.payment.sum; break;
                    default: total += one.payment.stamps(); break;
                }
            }
        }
        return total;
    }

    // ---- what lies at a place; none of it is ever changed, so that what undo() needs can be kept by reference

    /** Loose stamps of one face; all other kinds are of this one too. */
    private static class Plain {
        final int face;
        final int count;

        Plain(int face, int count) {
            this.face = face;
            this.count = count;
        }

        int kind() {
            return PLAIN;
        }

        /** So many stamps are given together alone. */
        int together() {
            return 1;
        }

        /** What the n stamps pay that would be given. */
        int worth(int n) {
            return n * face;
        }

        /** How many of the n stamps that would be given have a face. */
        int ofFace(int wanted, int n) {
            return wanted == face ? n : 0;
        }

        int pieces() {
            return count == 0 ? 0 : 1;
        }

        /** The squares, a bit each, that are torn off when n stamps are given. */
        long tearing(int n) {
            return 0L;
        }

        Plain without(int n, long squaresTorn) {
            return new Plain(face, count - n);
        }
    }

    private static final class Over extends Plain {
        final int old;

        Over(int old, int face, int count) {
            super(face, count);
            this.old = old;
        }

        int kind() {
            return OVER;
        }

        Plain without(int n, long squaresTorn) {
            return new Over(old, face, count - n);
        }
    }

    /** Its face is that of its last stamp. */
    private static final class Strip extends Plain {
        /** Those behind the first count are given, or never were. */
        final int[] faces;

        Strip(int[] faces, int count) {
            super(count > 0 && count <= faces.length ? faces[count - 1] : 0, count);
            this.faces = faces;
        }

        int kind() {
            return STRIP;
        }

        int stampAt(int i) {
            return within(i, 0, count - 1) && i < faces.length ? faces[i] : INDEX;
        }

        int worth(int n) {
            int sum = 0;
            for (int i = Math.max(0, count - n); i < count && i < faces.length; i++) {
                sum += faces[i];
            }
            return sum;
        }

        int ofFace(int wanted, int n) {
            int found = 0;
            for (int i = Math.max(0, count - n); i < count && i < faces.length; i++) {
                if (faces[i] == wanted) {
                    found++;
                }
            }
            return found;
        }

        Plain without(int n, long squaresTorn) {
            return new Strip(faces, count - n);
        }
    }

    private static class Block extends Plain {
        final int rows;
        final int columns;
        /** A bit for each row. */
        final int missing;
        /** A bit for each square that has a stamp. */
        final long squares;
        private final long firstColumn;
        private final long lastColumn;

        Block(int face, int rows, int columns, int missing, long squares) {
            super(face, Long.bitCount(squares));
            this.rows = rows;
            this.columns = columns;
            this.missing = missing;
            this.squares = squares;
            this.firstColumn = firstColumnOf(rows, columns);
            this.lastColumn = firstColumn << (columns - 1);
        }

        private static long firstColumnOf(int rows, int columns) {
            long column = 0L;
            for (int row = 0; row < rows; row++) {
                column |= 1L << (row * columns);
            }
            return column;
        }

        int kind() {
            return BLOCK;
        }

        Block changed(int missingNow, long squaresNow) {
            return new Block(face, rows, columns, missingNow, squaresNow);
        }

        /** The squares with a stamp that are given together and numbered by this one; 0: none. */
        long unitAt(int square) {
            return squares & (1L << square);
        }

        final Block withoutRow(int row) {
            long ofRow = ((1L << columns) - 1) << (row * columns);
            return changed(missing | (1 << row), squares & ~ofRow);
        }

        /** 0: the row can be looked at. */
        final int refusalOfRow(int row) {
            if (!within(row, 0, rows - 1)) {
                return INDEX;
            }
            return (missing & (1 << row)) != 0 ? NOTHING : 0;
        }

        final int squareAt(int row, int column) {
            int refusal = refusalOfRow(row);
            if (refusal < 0) {
                return refusal;
            }
            if (!within(column, 0, columns - 1)) {
                return INDEX;
            }
            return (squares & (1L << (row * columns + column))) != 0 ? face : 0;
        }

        final Plain without(int n, long squaresTorn) {
            return changed(missing, squares & ~squaresTorn);
        }

        final int pieces() {
            return piecesOf(squares);
        }

        private int piecesOf(long some) {
            int pieces = 0;
            long left = some;
            for (int i = 0; i < SQUARES && left != 0; i++) {
                left &= ~firstPieceOf(left);
                pieces++;
            }
            return pieces;
        }

        private long firstPieceOf(long some) {
            long piece = some & -some;
            for (int i = 0; i < SQUARES; i++) {
                long beside = (piece & ~lastColumn) << 1 | (piece & ~firstColumn) >>> 1;
                long grown = (piece | beside | piece << columns | piece >>> columns) & some;
                if (grown == piece) {
                    return piece;
                }
                piece = grown;
            }
            return piece;
        }

        final long tearing(int n) {
            int units = n / Math.max(1, together());
            if (units > 2) {
                return lastUnits(units);
            }
            int enough = pieces() - piecesThatGo(units);
            if (units == 2) {
                return gentlestTwo(enough);
            }
            return units == 1 ? gentlestOne(0L, 0, enough) : 0L;
        }

        /** At the most; only pieces that are torn off as a whole make fewer of them. Without this all choices had to be tried. */
        private int piecesThatGo(int units) {
            int ofOneUnit = 0;
            int ofTwoUnits = 0;
            long left = squares;
            for (int i = 0; i < SQUARES && left != 0; i++) {
                long piece = firstPieceOf(left);
                int size = Long.bitCount(piece);
                ofOneUnit += size == together() ? 1 : 0;
                ofTwoUnits += size == 2 * together() ? 1 : 0;
                left &= ~piece;
            }
            return units == 2 && ofOneUnit == 0 && ofTwoUnits > 0 ? 1 : Math.min(ofOneUnit, units);
        }

        private long lastUnits(int units) {
            long last = 0L;
            int left = units;
            for (int square = SQUARES - 1; square >= 0 && left > 0; square--) {
                long unit = unitAt(square);
                if (unit != 0) {
                    last |= unit;
                    left--;
                }
            }
            return last;
        }

        /** With what is torn off before, one unit more, from a square on; 0: there is none. Few enough pieces end the search. */
        private long gentlestOne(long before, int from, int enough) {
            long best = 0L;
            int fewestPieces = SQUARES + 1;
            for (int square = from; square < SQUARES && fewestPieces > enough; square++) {
                long unit = unitAt(square);
                int pieces = unit == 0 ? SQUARES + 1 : piecesOf(squares & ~(before | unit));
                if (pieces < fewestPieces) {
                    fewestPieces = pieces;
                    best = before | unit;
                }
            }
            return best;
        }

        private long gentlestTwo(int enough) {
            long best = 0L;
            int fewestPieces = SQUARES + 1;
            for (int square = 0; square < SQUARES && fewestPieces > enough; square++) {
                long unit = unitAt(square);
                long both = unit == 0 ? 0L : gentlestOne(unit, square + 1, enough);
                int pieces = both == 0 ? SQUARES + 1 : piecesOf(squares & ~both);
                if (pieces < fewestPieces) {
                    fewestPieces = pieces;
                    best = both;
                }
            }
            return best;
        }
    }

    private static final class Pair extends Block {
        Pair(int face, int rows, int columns, int missing, long squares) {
            super(face, rows, columns, missing, squares);
        }

        int kind() {
            return PAIR;
        }

        int together() {
            return 2;
        }

        Block changed(int missingNow, long squaresNow) {
            return new Pair(face, rows, columns, missingNow, squaresNow);
        }

        /** The columns are even, so a pair's first square is even too. */
        long unitAt(int square) {
            return square % 2 == 0 ? squares & (3L << square) : 0L;
        }

        int pairAt(int row, int pair) {
            int refusal = refusalOfRow(row);
            if (refusal < 0) {
                return refusal;
            }
            if (!within(pair, 0, columns / 2 - 1)) {
                return INDEX;
            }
            return squareAt(row, 2 * pair) + squareAt(row, 2 * pair + 1);
        }
    }

    // ---- rates, letters and the whole state; these are never changed either

    private static final class Way {
        final int count;
        final int[] grams;
        final int[] prices;

        Way(int[] grams, int[] prices) {
            this.count = Math.min(grams.length, prices.length);
            this.grams = grams;
            this.prices = prices;
        }

        int lastGrams() {
            return count == 0 ? 0 : grams[count - 1];
        }

        int lastPrice() {
            return count == 0 ? 0 : prices[count - 1];
        }

        Way withStep(int moreGrams, int morePrice) {
            int[] allGrams = new int[count + 1];
            int[] allPrices = new int[count + 1];
            for (int i = 0; i < count; i++) {
                allGrams[i] = grams[i];
                allPrices[i] = prices[i];
            }
            allGrams[count] = moreGrams;
            allPrices[count] = morePrice;
            return new Way(allGrams, allPrices);
        }

        int priceFor(int wholeGrams) {
            for (int i = 0; i < count; i++) {
                if (grams[i] >= wholeGrams) {
                    return prices[i];
                }
            }
            return NONE;
        }
    }

    private static final class Letter {
        final int price;
        /** null: it is not paid. */
        final Payment payment;

        Letter(int price, Payment payment) {
            this.price = price;
            this.payment = payment;
        }
    }

    private static final class Payment {
        final int sum;
        /** What lay at the places before the stamps were given. */
        final Plain[] from;
        final int[] counts;
        /** Those torn off, a bit each, of each place. */
        final long[] squares;

        Payment(int sum, Plain[] from, int[] counts, long[] squares) {
            this.sum = sum;
            this.from = from;
            this.counts = counts;
            this.squares = squares;
        }

        static long[] tearings(Plain[] places, int[] counts) {
            long[] squares = new long[PLACES];
            for (int place = 0; place < PLACES; place++) {
                if (places[place] != null) {
                    squares[place] = places[place].tearing(counts[place]);
                }
            }
            return squares;
        }

        /** What lies at the places behind it. */
        Plain[] rest() {
            Plain[] rest = new Plain[PLACES];
            for (int place = 0; place < PLACES; place++) {
                Plain was = from[place];
                rest[place] = was == null || counts[place] == 0 ? was : was.without(counts[place], squares[place]);
            }
            return rest;
        }

        int stamps() {
            int stamps = 0;
            for (int count : counts) {
                stamps += count;
            }
            return stamps;
        }

        int stampsOf(int face) {
            int stamps = 0;
            for (int place = 0; place < PLACES; place++) {
                if (from[place] != null) {
                    stamps += from[place].ofFace(face, counts[place]);
                }
            }
            return stamps;
        }

        int tornSquare(int i) {
            if (i < 0) {
                return NONE;
            }
            int left = i;
            for (int place = 0; place < PLACES; place++) {
                int here = Long.bitCount(squares[place]);
                if (left < here) {
                    return 100 * place + squareAfter(squares[place], left);
                }
                left -= here;
            }
            return NONE;
        }

        private static int squareAfter(long some, int lesserOnes) {
            int left = lesserOnes;
            for (int square = 0; square < SQUARES; square++) {
                if ((some & (1L << square)) != 0) {
                    if (left == 0) {
                        return square;
                    }
                    left--;
                }
            }
            return NONE;
        }
    }

    private static final class State {
        final Plain[] places;
        final Letter[] letters;
        final Way[] ways;
        final int[] extras;

        State(Plain[] places, Letter[] letters, Way[] ways, int[] extras) {
            this.places = places;
            this.letters = letters;
            this.ways = ways;
            this.extras = extras;
        }

        State withPlace(int place, Plain holding) {
            Plain[] copy = new Plain[PLACES];
            for (int i = 0; i < PLACES; i++) {
                copy[i] = i == place ? holding : places[i];
            }
            return new State(copy, letters, ways, extras);
        }

        State withWay(int way, Way steps) {
            Way[] copy = new Way[WAYS];
            for (int i = 0; i < WAYS; i++) {
                copy[i] = i == way ? steps : ways[i];
            }
            return new State(places, letters, copy, extras);
        }

        State withExtra(int k, int price) {
            int[] copy = new int[EXTRAS];
            for (int i = 0; i < EXTRAS; i++) {
                copy[i] = i == k ? price : extras[i];
            }
            return new State(places, letters, ways, copy);
        }

        State withLetter(Letter more) {
            Letter[] copy = new Letter[letters.length + 1];
            for (int i = 0; i < letters.length; i++) {
                copy[i] = letters[i];
            }
            copy[letters.length] = more;
            return new State(places, copy, ways, extras);
        }

        State withPayment(int letter, Payment payment) {
            Letter[] copy = new Letter[letters.length];
            for (int i = 0; i < letters.length; i++) {
                copy[i] = i == letter ? new Letter(letters[i].price, payment) : letters[i];
            }
            return new State(payment.rest(), copy, ways, extras);
        }

        int costOf(int someExtras) {
            int cost = 0;
            for (int k = 0; k < EXTRAS; k++) {
                if ((someExtras & (1 << k)) != 0) {
                    cost += extras[k];
                }
            }
            return cost;
        }

        int worth() {
            int sum = 0;
            for (Plain holding : places) {
                if (holding != null) {
                    sum += holding.worth(holding.count);
                }
            }
            return sum;
        }

        int stamps() {
            int stamps = 0;
            for (Plain holding : places) {
                if (holding != null) {
                    stamps += holding.count;
                }
            }
            return stamps;
        }

        int piecesOfSheets() {
            int pieces = 0;
            for (Plain holding : places) {
                if (holding instanceof Block) {
                    pieces += holding.pieces();
                }
            }
            return pieces;
        }
    }

    /** For sums, the fewest stamps by which they are paid; made once and used again, for the room's sake. */
    private static final class Choices {
        private static final int SUMS = MOST_PRICE + MOST_TOGETHER;
        /** Far above any number of stamps, so that stamps added to it are never the fewest. */
        private static final int NO_WAY = 1000000;

        /** Row i is for the places from i on alone; those before it can then be given most from, one by one. */
        private final int[][] fewestFrom = new int[PLACES + 1][SUMS];
        private int most = 0;

        /** For sums up to a highest one. */
        void reckon(Plain[] places, int highest) {
            most = Math.max(0, Math.min(highest, SUMS - 1));
            int[] end = fewestFrom[PLACES];
            for (int sum = 1; sum <= most; sum++) {
                end[sum] = NO_WAY;
            }
            end[0] = 0;
            for (int place = PLACES - 1; place >= 0; place--) {
                int[] behind = fewestFrom[place + 1];
                int[] row = fewestFrom[place];
                for (int sum = 0; sum <= most; sum++) {
                    row[sum] = behind[sum];
                }
                Plain holding = places[place];
                if (holding instanceof Strip) {
                    addStrip(row, behind, (Strip) holding);
                } else if (holding != null) {
                    addAlike(row, holding);
                }
            }
        }

        /** Of 1, 2, 4, .. units and the rest each is taken or not: so every number of units is met, in few rounds. */
        private void addAlike(int[] row, Plain holding) {
            int left = holding.count;
            int part = holding.together();
            for (int round = 0; round < SQUARES && left > 0; round++) {
                int stamps = Math.min(part, left);
                offer(row, row, stamps * holding.face, stamps);
                left -= stamps;
                part *= 2;
            }
        }

        private void addStrip(int[] row, int[] behind, Strip strip) {
            for (int n = 1; n <= strip.count; n++) {
                offer(row, behind, strip.worth(n), n);
            }
        }

        /** From the highest sum down, so that a row that is its own basis is offered the stamps but once. */
        private void offer(int[] row, int[] basis, int pays, int stamps) {
            for (int sum = most; sum >= pays; sum--) {
                int with = basis[sum - pays] + stamps;
                if (with < row[sum]) {
                    row[sum] = with;
                }
            }
        }

        int stampsFor(int sum) {
            return within(sum, 0, most) && fewestFrom[0][sum] < NO_WAY ? fewestFrom[0][sum] : NONE;
        }

        int firstSum(int price) {
            for (int sum = Math.max(0, price); sum <= most; sum++) {
                if (fewestFrom[0][sum] < NO_WAY) {
                    return sum;
                }
            }
            return NONE;
        }

        /** How many stamps of each place the choice has that is taken for a sum. */
        int[] countsFor(Plain[] places, int sum) {
            int[] counts = new int[PLACES];
            int left = sum;
            for (int place = 0; place < PLACES; place++) {
                Plain holding = places[place];
                if (holding != null && within(left, 0, most)) {
                    counts[place] = mostFrom(holding, place, left);
                    left -= holding.worth(counts[place]);
                }
            }
            return counts;
        }

        private int mostFrom(Plain holding, int place, int left) {
            int step = Math.max(1, holding.together());
            for (int n = holding.count; n > 0; n -= step) {
                int pays = holding.worth(n);
                if (pays <= left && fewestFrom[place + 1][left - pays] + n == fewestFrom[place][left]) {
                    return n;
                }
            }
            return 0;
        }
    }
}
