/** Promises 1 to 10. */
public final class DrawerTest {
    private static final int NONE = -1, OUTSIDE = -3, BUSY = -4, FULL = -5, NOTHING = -11, CAST = -12, INDEX = -13, SIZE = -14;
    private static final int LOW = Integer.MIN_VALUE, HIGH = Integer.MAX_VALUE;

    public static void main(String[] args) {
        newObject();
        pile();
        over();
        reelAndStrip();
        sheet();
        lack();
        clear();
        look();
        holding();
        holdingPieces();
        Due.end("DrawerTest");
    }

    private static void newObject() {
        PostageCounter x = new PostageCounter();
        for (int what = 0; what <= 9; what++) {
            Due.is("1 day " + what, x.day(what), 0);
        }
        for (int place = 0; place < 10; place++) {
            Due.is("1 holding " + place, x.holding(place, 0), NOTHING);
        }
        for (int way = 0; way < 6; way++) {
            Due.is("1 price " + way, x.price(way, 0f, 0), NONE);
        }
        Due.is("1 told", x.told(0, 0), OUTSIDE);
        Due.is("1 undo", x.undo(), NONE);
        Due.is("1 strip of an empty reel", x.strip(0), 0);
        for (int k = 0; k < 4; k++) {
            Due.is("1 extra " + k, x.extra(k, 7), 0);
        }
    }

    private static void pile() {
        PostageCounter x = new PostageCounter();
        Due.is("2 all", x.pile(0, 1, 60), 60);
        Due.is("2 none", x.pile(9, 500, 0), 0);
        Due.is("2 one", x.pile(5, 33, 1), 1);
        Due.is("2 place -1", x.pile(-1, 1, 1), OUTSIDE);
        Due.is("2 place 10", x.pile(10, 1, 1), OUTSIDE);
        Due.is("2 place low", x.pile(LOW, 1, 1), OUTSIDE);
        Due.is("2 place high", x.pile(HIGH, 1, 1), OUTSIDE);
        Due.is("2 face 0", x.pile(1, 0, 1), OUTSIDE);
        Due.is("2 face 501", x.pile(1, 501, 1), OUTSIDE);
        Due.is("2 n -1", x.pile(1, 1, -1), OUTSIDE);
        Due.is("2 n 61", x.pile(1, 1, 61), OUTSIDE);
        Due.is("2 busy", x.pile(9, 1, 1), BUSY);
        Due.is("2 outside before busy", x.pile(9, 1, 61), OUTSIDE);
        Due.is("2 kind", x.holding(0, 0), 0);
        Due.is("2 stamps", x.holding(0, 1), 60);
        Due.is("2 face", x.holding(5, 2), 33);
        Due.is("2 refused ones change nothing", x.day(9), 3);
    }

    private static void over() {
        PostageCounter x = new PostageCounter();
        Due.is("3 all", x.over(0, 500, 1, 60), 60);
        Due.is("3 none", x.over(1, 1, 500, 0), 0);
        Due.is("3 the same face again", x.over(2, 8, 8, 3), 3);
        Due.is("3 place", x.over(10, 1, 1, 1), OUTSIDE);
        Due.is("3 place -1", x.over(-1, 1, 1, 1), OUTSIDE);
        Due.is("3 old 0", x.over(3, 0, 1, 1), OUTSIDE);
        Due.is("3 old 501", x.over(3, 501, 1, 1), OUTSIDE);
        Due.is("3 face 0", x.over(3, 1, 0, 1), OUTSIDE);
        Due.is("3 face 501", x.over(3, 1, 501, 1), OUTSIDE);
        Due.is("3 n -1", x.over(3, 1, 1, -1), OUTSIDE);
        Due.is("3 n 61", x.over(3, 1, 1, 61), OUTSIDE);
        Due.is("3 busy", x.over(1, 1, 1, 1), BUSY);
        Due.is("3 outside before busy", x.over(1, 0, 1, 1), OUTSIDE);
        Due.is("3 kind", x.holding(0, 0), 4);
        Due.is("3 face", x.holding(0, 2), 1);
        Due.is("3 old face", x.look(0, 4, 0, 0), 500);
        Due.is("3 sum", x.holding(0, 3), 60);
        Due.is("3 acts", x.day(9), 3);
    }

    private static void reelAndStrip() {
        PostageCounter x = new PostageCounter();
        Due.is("4 face 0", x.reel(0), OUTSIDE);
        Due.is("4 face 501", x.reel(501), OUTSIDE);
        for (int i = 1; i <= 40; i++) {
            Due.is("4 reel", x.reel(i == 40 ? 500 : i), i);
        }
        Due.is("4 outside before full", x.reel(0), OUTSIDE);
        Due.is("4 full", x.reel(1), FULL);
        Due.is("4 on the reel", x.day(8), 40);
        Due.is("4 no act", x.day(9), 0);
        Due.is("5 place -1", x.strip(-1), OUTSIDE);
        Due.is("5 place 10", x.strip(10), OUTSIDE);
        x.pile(1, 1, 1);
        Due.is("5 busy", x.strip(1), BUSY);
        Due.is("5 the reel stays", x.day(8), 40);
        Due.is("5 strip", x.strip(0), 40);
        Due.is("5 the reel is empty", x.day(8), 0);
        for (int i = 0; i < 40; i++) {
            Due.is("5 stamp " + i, x.look(0, 1, i, 0), i == 39 ? 500 : i + 1);
        }
        Due.is("5 kind", x.holding(0, 0), 1);
        Due.is("4 a new reel", x.reel(77), 1);
        Due.is("5 the strip has its own stamps", x.look(0, 1, 0, 0), 1);
        Due.is("5 second strip", x.strip(2), 1);
        Due.is("5 its stamp", x.look(2, 1, 0, 0), 77);
        Due.is("5 empty strip", x.strip(3), 0);
        Due.is("5 holds it", x.strip(3), BUSY);
    }

    private static void sheet() {
        PostageCounter x = new PostageCounter();
        Due.is("6 block", x.sheet(0, 2, 8, 8, 500), 64);
        Due.is("6 pair", x.sheet(1, 3, 8, 8, 1), 64);
        Due.is("6 least", x.sheet(2, 2, 1, 1, 3), 1);
        Due.is("6 odd block", x.sheet(3, 2, 7, 3, 3), 21);
        Due.is("6 least pair", x.sheet(4, 3, 1, 2, 3), 2);
        Due.is("6 place", x.sheet(10, 2, 1, 1, 1), OUTSIDE);
        Due.is("6 place -1", x.sheet(-1, 2, 1, 1, 1), OUTSIDE);
        Due.is("6 kind 1", x.sheet(5, 1, 2, 2, 1), OUTSIDE);
        Due.is("6 kind 4", x.sheet(5, 4, 2, 2, 1), OUTSIDE);
        Due.is("6 kind 0", x.sheet(5, 0, 2, 2, 1), OUTSIDE);
        Due.is("6 face 0", x.sheet(5, 2, 2, 2, 0), OUTSIDE);
        Due.is("6 face 501", x.sheet(5, 2, 2, 2, 501), OUTSIDE);
        Due.is("6 rows 9", x.sheet(5, 2, 9, 2, 1), OUTSIDE);
        Due.is("6 columns 9", x.sheet(5, 2, 2, 9, 1), OUTSIDE);
        Due.is("6 rows high", x.sheet(5, 2, HIGH, HIGH, 1), OUTSIDE);
        Due.is("6 columns above before rows below", x.sheet(5, 2, -1, 9, 1), OUTSIDE);
        Due.is("6 outside before busy", x.sheet(0, 2, 9, 2, 1), OUTSIDE);
        Due.is("6 busy", x.sheet(0, 2, 2, 2, 1), BUSY);
        Due.is("6 busy before size", x.sheet(0, 2, -1, 2, 1), BUSY);
        Due.is("6 busy before none", x.sheet(0, 2, 0, 2, 1), BUSY);
        Due.is("6 rows -1", x.sheet(5, 2, -1, 2, 1), SIZE);
        Due.is("6 columns -1", x.sheet(5, 2, 2, -1, 1), SIZE);
        Due.is("6 rows low", x.sheet(5, 3, LOW, LOW, 1), SIZE);
        Due.is("6 size before none", x.sheet(5, 2, 0, -1, 1), SIZE);
        Due.is("6 size before odd", x.sheet(5, 3, -1, 3, 1), SIZE);
        Due.is("6 rows 0", x.sheet(5, 2, 0, 2, 1), OUTSIDE);
        Due.is("6 columns 0", x.sheet(5, 3, 2, 0, 1), OUTSIDE);
        Due.is("6 odd pair", x.sheet(5, 3, 2, 3, 1), OUTSIDE);
        Due.is("6 kind of a block", x.holding(0, 0), 2);
        Due.is("6 kind of a pair", x.holding(1, 0), 3);
        Due.is("6 acts", x.day(9), 5);
    }

    private static void lack() {
        PostageCounter x = new PostageCounter();
        x.sheet(0, 2, 3, 4, 5);
        x.sheet(1, 3, 8, 8, 5);
        x.pile(2, 5, 5);
        x.reel(5);
        x.strip(3);
        x.over(4, 5, 5, 5);
        Due.is("7 place", x.lack(10, 0), OUTSIDE);
        Due.is("7 place -1", x.lack(-1, 0), OUTSIDE);
        Due.is("7 nothing", x.lack(9, 0), NOTHING);
        Due.is("7 pile", x.lack(2, 0), CAST);
        Due.is("7 strip", x.lack(3, 0), CAST);
        Due.is("7 over", x.lack(4, -1), CAST);
        Due.is("7 row 3", x.lack(0, 3), INDEX);
        Due.is("7 row -1", x.lack(0, -1), INDEX);
        Due.is("7 row low", x.lack(0, LOW), INDEX);
        Due.is("7 row", x.lack(0, 1), 4);
        Due.is("7 missing", x.lack(0, 1), NOTHING);
        Due.is("7 rest", x.holding(0, 1), 8);
        Due.is("7 last row of a pair", x.lack(1, 7), 8);
        Due.is("7 still a pair", x.holding(1, 0), 3);
        Due.is("7 rest of a pair", x.holding(1, 1), 56);
        Due.is("7 row 0", x.lack(0, 0), 4);
        Due.is("7 row 2", x.lack(0, 2), 4);
        Due.is("7 no stamps, but there", x.holding(0, 1), 0);
        Due.is("7 still busy", x.pile(0, 1, 1), BUSY);
        PostageCounter y = new PostageCounter();
        y.sheet(0, 2, 2, 3, 10);
        y.rate(0, 10, 10);
        y.letter(0, 1f, 0);
        y.pay(0);
        Due.is("7 torn row", y.lack(0, 0), 2);
        PostageCounter z = new PostageCounter();
        z.sheet(0, 2, 2, 1, 10);
        z.rate(0, 10, 10);
        z.letter(0, 1f, 0);
        z.pay(0);
        Due.is("7 row without stamps is not missing", z.look(0, 2, 0, 0), 0);
        Due.is("7 row without stamps", z.lack(0, 0), 0);
        Due.is("7 is missing then", z.look(0, 2, 0, 0), NOTHING);
    }

    private static void clear() {
        PostageCounter x = new PostageCounter();
        Due.is("8 place", x.clear(10), OUTSIDE);
        Due.is("8 place -1", x.clear(-1), OUTSIDE);
        Due.is("8 nothing", x.clear(0), NOTHING);
        x.pile(0, 5, 0);
        Due.is("8 clear", x.clear(0), 1);
        Due.is("8 again", x.clear(0), NOTHING);
        Due.is("8 holds nothing", x.holding(0, 1), NOTHING);
        Due.is("8 acts", x.day(9), 2);
        Due.is("8 can be filled", x.sheet(0, 2, 2, 2, 2), 4);
    }

    private static void look() {
        PostageCounter x = new PostageCounter();
        x.pile(0, 11, 3);
        x.reel(21);
        x.reel(22);
        x.reel(23);
        x.strip(1);
        x.sheet(2, 2, 2, 3, 31);
        x.sheet(3, 3, 2, 4, 41);
        x.over(4, 51, 52, 6);
        int[] stamps = {3, 3, 6, 8, 6};
        for (int place = 0; place <= 4; place++) {
            Due.is("9 stamps " + place, x.look(place, 0, LOW, HIGH), stamps[place]);
            Due.is("9 strip " + place, x.look(place, 1, 0, LOW), place == 1 ? 21 : CAST);
            Due.is("9 block " + place, x.look(place, 2, 1, 2), place == 2 ? 31 : place == 3 ? 41 : CAST);
            Due.is("9 pair " + place, x.look(place, 3, 1, 1), place == 3 ? 82 : CAST);
            Due.is("9 over " + place, x.look(place, 4, HIGH, LOW), place == 4 ? 51 : CAST);
            Due.is("9 kind -1", x.look(place, -1, 0, 0), OUTSIDE);
            Due.is("9 kind 5", x.look(place, 5, 0, 0), OUTSIDE);
        }
        Due.is("9 place", x.look(10, 0, 0, 0), OUTSIDE);
        Due.is("9 place -1", x.look(-1, 0, 0, 0), OUTSIDE);
        Due.is("9 nothing", x.look(5, 3, 0, 0), NOTHING);
        Due.is("9 kind before nothing", x.look(5, 5, 0, 0), OUTSIDE);
        Due.is("9 last stamp", x.look(1, 1, 2, 0), 23);
        Due.is("9 stamp 3", x.look(1, 1, 3, 0), INDEX);
        Due.is("9 stamp -1", x.look(1, 1, -1, 0), INDEX);
        Due.is("9 stamp high", x.look(1, 1, HIGH, 0), INDEX);
        Due.is("9 row 2", x.look(2, 2, 2, 0), INDEX);
        Due.is("9 row -1", x.look(2, 2, -1, 0), INDEX);
        Due.is("9 square 3", x.look(2, 2, 0, 3), INDEX);
        Due.is("9 square -1", x.look(2, 2, 1, -1), INDEX);
        Due.is("9 pair 2", x.look(3, 3, 0, 2), INDEX);
        Due.is("9 pair -1", x.look(3, 3, 0, -1), INDEX);
        Due.is("9 pair high", x.look(3, 3, 0, 1 << 30), INDEX);
        Due.is("9 pair low", x.look(3, 3, 0, LOW), INDEX);
        Due.is("9 pair row", x.look(3, 3, 2, 0), INDEX);
        Due.is("9 pair row -1", x.look(3, 3, -1, 0), INDEX);
        x.lack(2, 1);
        x.lack(3, 0);
        Due.is("9 missing before the square", x.look(2, 2, 1, 3), NOTHING);
        Due.is("9 missing before the pair", x.look(3, 3, 0, 9), NOTHING);
        Due.is("9 missing as of a block", x.look(3, 2, 0, 0), NOTHING);
        Due.is("9 the other row", x.look(3, 3, 1, 1), 82);
        x.clear(0);
        x.clear(1);
        x.clear(4);
        x.rate(0, 1, 70);
        x.letter(0, 1f, 0);
        Due.is("9 paid", x.pay(0), 82);
        Due.is("9 torn pair", x.look(3, 3, 1, 0), 0);
        Due.is("9 torn square", x.look(3, 2, 1, 1), 0);
        Due.is("9 square with a stamp", x.look(3, 2, 1, 2), 41);
        x.over(5, 9, 8, 0);
        Due.is("9 old face without stamps", x.look(5, 4, 0, 0), 9);
        x.strip(6);
        Due.is("9 no stamp", x.look(6, 1, 0, 0), INDEX);
    }

    private static void holding() {
        PostageCounter x = new PostageCounter();
        x.pile(0, 11, 3);
        x.reel(21);
        x.reel(22);
        x.strip(1);
        x.sheet(2, 2, 2, 3, 31);
        x.sheet(3, 3, 2, 4, 41);
        x.over(4, 51, 52, 6);
        x.pile(5, 12, 0);
        x.strip(6);
        x.over(7, 61, 62, 0);
        int[][] due = {
            {0, 3, 11, 33, 1}, {1, 2, 22, 43, 1}, {2, 6, 31, 186, 1}, {3, 8, 41, 328, 1}, {4, 6, 52, 312, 1},
            {0, 0, 12, 0, 0}, {1, 0, 0, 0, 0}, {4, 0, 62, 0, 0}
        };
        for (int place = 0; place < due.length; place++) {
            for (int what = 0; what <= 4; what++) {
                Due.is("10 holding " + place + " " + what, x.holding(place, what), due[place][what]);
            }
            Due.is("10 what -1", x.holding(place, -1), OUTSIDE);
            Due.is("10 what 5", x.holding(place, 5), OUTSIDE);
        }
        Due.is("10 place", x.holding(10, 0), OUTSIDE);
        Due.is("10 place -1", x.holding(-1, 0), OUTSIDE);
        Due.is("10 nothing", x.holding(8, 4), NOTHING);
        Due.is("10 what before nothing", x.holding(8, 5), OUTSIDE);
        x.lack(2, 0);
        x.lack(2, 1);
        Due.is("10 face without stamps", x.holding(2, 2), 31);
        Due.is("10 no pieces", x.holding(2, 4), 0);
        Due.is("10 no sum", x.holding(2, 3), 0);
        Due.is("10 no stamps", x.holding(2, 1), 0);
    }

    private static void holdingPieces() {
        PostageCounter x = new PostageCounter();
        x.sheet(0, 2, 8, 8, 1);
        Due.is("10 whole", x.holding(0, 4), 1);
        x.lack(0, 0);
        Due.is("10 edge row", x.holding(0, 4), 1);
        x.lack(0, 2);
        Due.is("10 rows apart", x.holding(0, 4), 2);
        x.lack(0, 4);
        x.lack(0, 6);
        Due.is("10 four rows", x.holding(0, 4), 4);
        Due.is("10 of the day", x.day(7), 4);
        x.sheet(1, 3, 3, 2, 1);
        x.lack(1, 1);
        Due.is("10 pair", x.holding(1, 4), 2);
        x.pile(2, 5, 5);
        Due.is("10 of all sheets alone", x.day(7), 6);
        PostageCounter y = new PostageCounter();
        y.sheet(0, 2, 2, 8, 100);
        y.rate(0, 1, 900);
        y.letter(0, 1f, 0);
        y.pay(0);
        Due.is("10 the end of a row is not beside the next one's beginning", y.holding(0, 4), 1);
        y.sheet(1, 2, 2, 4, 1);
        y.sheet(2, 2, 3, 1, 1);
        y.lack(2, 1);
        Due.is("10 column", y.holding(2, 4), 2);
    }
}
