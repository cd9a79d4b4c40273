/** What is torn off of sheets: promises 16 and 19. */
public final class TearingTest {
    private static final int NONE = -1;

    public static void main(String[] args) {
        oneSquare();
        twoSquares();
        severalPieces();
        threeSquares();
        pairs();
        whole();
        Due.end("TearingTest");
    }

    /** A counter with letters of so many times the price 10 (way = number - 1), and a sheet of face 10 at place 0. */
    private static PostageCounter withSheet(int kind, int rows, int columns) {
        PostageCounter x = new PostageCounter();
        for (int way = 0; way < 6; way++) {
            x.rate(way, 1, 10 * (way + 1));
        }
        x.sheet(0, kind, rows, columns, 10);
        return x;
    }

    /** Pays a new letter of so many stamps of face 10, and looks which squares were torn off. */
    private static void tears(PostageCounter x, String what, int stamps, int... squares) {
        int letter = x.letter(stamps - 1, 1f, 0);
        Due.is(what + " pays", x.pay(letter), 10 * stamps);
        for (int i = 0; i < squares.length; i++) {
            Due.is(what + " square " + i, x.torn(letter, i), squares[i]);
        }
        Due.is(what + " no more", x.torn(letter, squares.length), NONE);
    }

    private static void oneSquare() {
        PostageCounter x = withSheet(2, 1, 4);
        tears(x, "the end of a row", 1, 0);
        PostageCounter y = withSheet(2, 3, 3);
        tears(y, "corner", 1, 0);
        tears(y, "next", 1, 1);
        tears(y, "next", 1, 2);
        tears(y, "second row", 1, 3);
        PostageCounter z = withSheet(2, 3, 3);
        tears(z, "two", 2, 0, 1);
        tears(z, "one that hangs at the end", 1, 2);
        PostageCounter a = withSheet(2, 4, 1);
        a.lack(0, 1);
        Due.is("two pieces", a.holding(0, 4), 2);
        tears(a, "a piece of one square goes first", 1, 0);
        Due.is("one piece", a.holding(0, 4), 1);
        PostageCounter b = withSheet(2, 4, 1);
        b.lack(0, 2);
        tears(b, "the lone one, though it is the last", 1, 3);
    }

    private static void twoSquares() {
        PostageCounter x = withSheet(2, 1, 5);
        tears(x, "two of a row", 2, 0, 1);
        PostageCounter y = withSheet(2, 1, 2);
        tears(y, "both", 2, 0, 1);
        Due.is("none left", y.holding(0, 4), 0);
        PostageCounter z = withSheet(2, 2, 2);
        tears(z, "two of four: the upper ones", 2, 0, 1);
        PostageCounter a = withSheet(2, 5, 1);
        a.lack(0, 2);
        tears(a, "one of two pieces, whole", 2, 0, 1);
        PostageCounter b = withSheet(2, 6, 1);
        b.lack(0, 3);
        tears(b, "the smaller piece, though it is behind", 2, 4, 5);
        PostageCounter c = withSheet(2, 5, 1);
        c.lack(0, 1);
        tears(c, "the lone one, and then the least", 2, 0, 2);
        PostageCounter d = withSheet(2, 7, 1);
        d.lack(0, 3);
        tears(d, "none can go whole", 2, 0, 1);
    }

    private static void severalPieces() {
        PostageCounter x = withSheet(2, 5, 1);
        x.lack(0, 1);
        x.lack(0, 3);
        tears(x, "two lone ones", 2, 0, 2);
        Due.is("one is left", x.holding(0, 4), 1);
        PostageCounter y = withSheet(2, 8, 1);
        y.lack(0, 2);
        y.lack(0, 4);
        tears(y, "the lone one in the middle", 1, 3);
        PostageCounter z = withSheet(2, 3, 8);
        z.lack(0, 1);
        tears(z, "two rows", 2, 0, 1);
        Due.is("still two", z.holding(0, 4), 2);
        PostageCounter a = withSheet(2, 6, 1);
        a.lack(0, 2);
        a.lack(0, 4);
        tears(a, "the two lone ones behind", 2, 3, 5);
        PostageCounter b = withSheet(2, 2, 4);
        for (int square = 0; square < 3; square++) {
            tears(b, "the first ones", 1, square);
        }
        tears(b, "the last ones", 3, 5, 6, 7);
        Due.is("the end of a row is not beside the beginning of the next", b.holding(0, 4), 2);
    }

    private static void threeSquares() {
        PostageCounter x = withSheet(2, 3, 3);
        tears(x, "the last three", 3, 6, 7, 8);
        tears(x, "the last four", 4, 2, 3, 4, 5);
        PostageCounter y = withSheet(2, 2, 4);
        tears(y, "first two", 2, 0, 1);
        tears(y, "three, those torn off are passed over", 5, 3, 4, 5, 6, 7);
        PostageCounter z = withSheet(2, 4, 2);
        z.lack(0, 3);
        tears(z, "three, a missing row is passed over", 3, 3, 4, 5);
    }

    private static void pairs() {
        PostageCounter x = withSheet(3, 4, 4);
        tears(x, "first pair", 2, 0, 1);
        tears(x, "two pairs", 4, 2, 3, 4, 5);
        PostageCounter y = withSheet(3, 1, 6);
        tears(y, "end of a row", 2, 0, 1);
        PostageCounter z = withSheet(3, 4, 4);
        tears(z, "three pairs", 6, 10, 11, 12, 13, 14, 15);
        PostageCounter a = withSheet(3, 4, 2);
        a.lack(0, 2);
        tears(a, "the lone pair behind", 2, 6, 7);
        PostageCounter b = withSheet(3, 5, 2);
        b.lack(0, 3);
        tears(b, "the lone pair and the first", 4, 0, 1, 8, 9);
        PostageCounter c = withSheet(3, 6, 2);
        c.lack(0, 3);
        tears(c, "two pairs of one piece", 4, 8, 9, 10, 11);
        Due.is("one piece", c.holding(0, 4), 1);
        PostageCounter d = withSheet(3, 3, 2);
        tears(d, "all", 6, 0, 1, 2, 3, 4, 5);
        Due.is("none", d.holding(0, 4), 0);
        Due.is("still a sheet", d.holding(0, 0), 3);
    }

    private static void whole() {
        PostageCounter x = withSheet(2, 8, 8);
        for (int square = 0; square < 56; square++) {
            x.clear(1);
            tears(x, "one by one", 1, square);
        }
        PostageCounter y = withSheet(2, 8, 8);
        tears(y, "last square", 3, 61, 62, 63);
        tears(y, "first squares", 2, 0, 1);
    }
}
