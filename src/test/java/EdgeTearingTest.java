/**
 * SQUARES, PIECES and what is torn off (THE DRAWER, PAYING; promises 10, 16, 19), sentence by sentence where one names an
 * edge, and all small sheets against the naive counter.
 */
public final class EdgeTearingTest {
    private static final int NONE = Scene.NONE, NOTHING = Scene.NOTHING;

    public static void main(String[] args) {
        numbersOfSquares();
        piecesOfWholeSheets();
        missingRowsPart();
        rowsEndsDoNotHang();
        rowsEndsDoNotHangInAnyRow();
        cornersDoNotHang();
        oneSquare();
        twoSquares();
        lesserSquareFirst();
        threeSquares();
        onePair();
        twoPairs();
        threePairs();
        piecesOfAPairsRest();
        allSmallSheets();
        someGreatSheets();
        Due.end("EdgeTearingTest");
    }

    /** A counter with a sheet of face 1 at place 0. */
    private static PostageCounter withSheet(int kind, int rows, int columns, int... missing) {
        PostageCounter x = new PostageCounter();
        x.sheet(0, kind, rows, columns, 1);
        for (int row : missing) {
            x.lack(0, row);
        }
        return x;
    }

    /** Pays a letter of so many stamps; the number of the letter. The ways are used up one by one. */
    private static int give(PostageCounter x, int stamps) {
        int letters = x.day(0);
        for (int way = 0; way < 6; way++) {
            int price = x.price(way, 1f, 0);
            if (price == NONE) {
                x.rate(way, 1, stamps);
                price = stamps;
            }
            if (price == stamps) {
                Due.is("a letter of " + stamps, x.letter(way, 1f, 0), letters);
                Due.is("a letter of " + stamps + " pays", x.pay(letters), stamps);
                return letters;
            }
        }
        Due.is("a way is left", 0, 1);
        return letters;
    }

    /** Gives so many stamps, and looks which squares went and how many pieces are left. */
    private static void tears(String what, PostageCounter x, int pieces, int... squares) {
        int letter = give(x, squares.length);
        for (int i = 0; i < squares.length; i++) {
            Due.is(what + ": square " + i, x.torn(letter, i), squares[i]);
        }
        Due.is(what + ": no more", x.torn(letter, squares.length), NONE);
        Due.is(what + ": pieces", x.holding(0, 4), pieces);
        Due.is(what + ": pieces of all sheets", x.day(7), pieces);
    }

    private static int[] fromTo(int from, int to) {
        int[] row = new int[to - from + 1];
        for (int i = 0; i < row.length; i++) {
            row[i] = from + i;
        }
        return row;
    }

    // ---- "SQUARES of a sheet of c columns are numbered: row r, column k is c * r + k."

    private static void numbersOfSquares() {
        for (int kind = 2; kind <= 3; kind++) {
            for (int rows = 1; rows <= 8; rows++) {
                for (int columns = kind - 1; columns <= 8; columns += kind - 1) {
                    int squares = rows * columns;
                    PostageCounter x = withSheet(kind, rows, columns);
                    tears("all of " + rows + " x " + columns, x, 0, fromTo(0, squares - 1));
                    int least = kind == 2 ? 3 : 6;
                    if (squares >= least) {
                        numbersOfTheLast(withSheet(kind, rows, columns), rows, columns, least);
                    }
                }
            }
        }
    }

    private static void numbersOfTheLast(PostageCounter x, int rows, int columns, int stamps) {
        int letter = give(x, stamps);
        for (int i = 0; i < stamps; i++) {
            Due.is("of the greatest numbers", x.torn(letter, i), rows * columns - stamps + i);
        }
        for (int r = 0; r < rows; r++) {
            for (int k = 0; k < columns; k++) {
                Due.is("row " + r + ", column " + k, x.look(0, 2, r, k), columns * r + k < rows * columns - stamps ? 1 : 0);
            }
        }
    }

    // ---- "squares with a stamp hang together that are side by side in a row, or one above the other in rows one above the other"

    private static void piecesOfWholeSheets() {
        for (int rows = 1; rows <= 8; rows++) {
            for (int columns = 1; columns <= 8; columns++) {
                Due.is("10 a whole sheet", withSheet(2, rows, columns).holding(0, 4), 1);
            }
        }
        Due.is("10 one square", withSheet(2, 1, 1).holding(0, 4), 1);
        Due.is("10 no square", withSheet(2, 1, 1, 0).holding(0, 4), 0);
        Due.is("10 no square of 64", withSheet(3, 8, 8, 0, 1, 2, 3, 4, 5, 6, 7).holding(0, 4), 0);
    }

    private static void missingRowsPart() {
        for (int columns = 2; columns <= 8; columns += 2) {
            for (int kind = 2; kind <= 3; kind++) {
                Due.is("10 the first row", withSheet(kind, 8, columns, 0).holding(0, 4), 1);
                Due.is("10 the last row", withSheet(kind, 8, columns, 7).holding(0, 4), 1);
                Due.is("10 one between", withSheet(kind, 8, columns, 1).holding(0, 4), 2);
                Due.is("10 two between", withSheet(kind, 8, columns, 3, 4).holding(0, 4), 2);
                Due.is("10 every other row", withSheet(kind, 8, columns, 0, 2, 4, 6).holding(0, 4), 4);
                Due.is("10 all but the first and the last", withSheet(kind, 8, columns, 1, 2, 3, 4, 5, 6).holding(0, 4), 2);
                Due.is("10 all but one", withSheet(kind, 8, columns, 0, 1, 2, 3, 4, 5, 6).holding(0, 4), 1);
            }
        }
        PostageCounter x = withSheet(2, 3, 1, 1);
        x.sheet(5, 3, 3, 2, 1);
        x.lack(5, 1);
        x.pile(6, 1, 1);
        Due.is("22 PIECES of all sheets", x.day(7), 4);
        x.clear(0);
        Due.is("22 that are there", x.day(7), 2);
    }

    /** Of the rest the end of a row and the beginning of the next one are left. */
    private static void rowsEndsDoNotHang() {
        PostageCounter x = withSheet(2, 3, 3);
        tears("the first two", x, 1, 0, 1);
        tears("all but the end and the beginning", x, 2, 4, 5, 6, 7, 8);
        PostageCounter y = withSheet(2, 2, 8);
        tears("two", y, 1, 0, 1);
        tears("two", y, 1, 2, 3);
        tears("two", y, 1, 4, 5);
        tears("one", y, 1, 6);
        tears("the last seven", y, 2, fromTo(9, 15));
        tears("the lone end", y, 1, 7);
        PostageCounter z = withSheet(2, 8, 8);
        for (int i = 0; i < 27; i++) {
            tears("two of 64", z, 1, 2 * i, 2 * i + 1);
        }
        tears("one of 64", z, 1, 54);
        tears("seven of 64", z, 2, fromTo(57, 63));
    }

    private static void rowsEndsDoNotHangInAnyRow() {
        for (int rows = 2; rows <= 8; rows++) {
            for (int row = 0; row <= rows - 2; row++) {
                for (int columns = 2; columns <= 8; columns++) {
                    rowsEndDoesNotHang(2, rows, columns, row);
                    if (columns > 2 && columns % 2 == 0) {
                        rowsEndDoesNotHang(3, rows, columns, row);
                    }
                }
            }
        }
    }

    /** Three rows at most are there; the first square (or pair) is torn off, then all behind that of the next row. */
    private static void rowsEndDoesNotHang(int kind, int rows, int columns, int row) {
        PostageCounter x = withSheet(kind, rows, columns);
        int end = Math.min(rows, row + 3);
        for (int other = 0; other < rows; other++) {
            if (other < row || other >= end) {
                x.lack(0, other);
            }
        }
        int together = kind - 1;
        int first = columns * row;
        int behind = first + columns + together;
        if (columns * end - behind >= 3 * together) {
            String what = kind + ": " + rows + " x " + columns + ", row " + row;
            tears(what + ", its beginning", x, 1, fromTo(first, first + together - 1));
            tears(what + ", all but its end and the next one's beginning", x, 2, fromTo(behind, columns * end - 1));
        }
    }

    private static void cornersDoNotHang() {
        PostageCounter x = withSheet(2, 3, 2);
        tears("the first", x, 1, 0);
        tears("all but two that touch with a corner", x, 2, 3, 4, 5);
        tears("the lesser of them", x, 1, 1);
        PostageCounter y = withSheet(2, 3, 3);
        tears("the first", y, 1, 0);
        tears("all but two and the one that touches with a corner", y, 2, 4, 5, 6, 7, 8);
        tears("the lone one, though it is the last", y, 1, 3);
    }

    // ---- "of a BLOCK of which one or two squares are given, those with the rest in the fewest PIECES"

    private static void oneSquare() {
        tears("the only one", withSheet(2, 1, 1), 0, 0);
        tears("one of two", withSheet(2, 1, 2), 1, 0);
        tears("one of two rows", withSheet(2, 2, 1), 1, 0);
        tears("one of three", withSheet(2, 1, 3), 1, 0);
        tears("the one that is left", withSheet(2, 8, 1, 0, 1, 2, 3, 4, 5, 6), 0, 7);
        tears("the corner", withSheet(2, 8, 8), 1, 0);
        tears("a lone one in the middle", withSheet(2, 7, 1, 2, 4), 2, 3);
        tears("a lone one at the end", withSheet(2, 8, 1, 6), 1, 7);
        PostageCounter x = withSheet(2, 3, 3);
        tears("all but four", x, 1, 4, 5, 6, 7, 8);
        tears("neither the one between nor the one in the corner", x, 1, 2);
        tears("nor then the one in the corner", x, 1, 1);
    }

    private static void twoSquares() {
        tears("the only two", withSheet(2, 1, 2), 0, 0, 1);
        tears("the only two of two pieces", withSheet(2, 3, 1, 1), 0, 0, 2);
        tears("two of three", withSheet(2, 1, 3), 1, 0, 1);
        tears("two of four", withSheet(2, 1, 4), 1, 0, 1);
        tears("two lone ones", withSheet(2, 8, 1, 2, 4, 6), 2, 3, 5);
        tears("a piece of two behind a greater one", withSheet(2, 8, 1, 5), 1, 6, 7);
        tears("a piece of two before a greater one", withSheet(2, 8, 1, 2), 1, 0, 1);
        tears("a lone one and the first that parts nothing", withSheet(2, 8, 1, 6), 1, 0, 7);
        tears("two lone ones rather than a piece of two", withSheet(2, 6, 1, 2, 4), 1, 3, 5);
        tears("a piece of two goes like a lone one and another", withSheet(2, 8, 1, 2, 4, 5), 2, 0, 1);
        tears("a lone one and another go like a piece of two", withSheet(2, 8, 1, 1, 4, 5), 2, 0, 2);
        PostageCounter x = withSheet(2, 1, 3);
        tears("the first", x, 1, 0);
        tears("the other two", x, 0, 1, 2);
        Due.is("no row is missing", x.look(0, 2, 0, 0), 0);
    }

    // ---- "of several such choices that whose squares have the least numbers (the lesser square is compared first)"

    private static void lesserSquareFirst() {
        tears("the lesser one as small as can be, then the other", withSheet(2, 5, 1, 1), 1, 0, 2);
        tears("of three lone ones the first two", withSheet(2, 5, 1, 1, 3), 1, 0, 2);
        tears("0 and 7 rather than 4 and 5", withSheet(2, 8, 1, 3, 6), 2, 0, 7);
        PostageCounter x = withSheet(2, 2, 4);
        tears("the last three", x, 1, 5, 6, 7);
        tears("0 and 4 rather than 2 and 3; 0 and 1 would part the rest", x, 1, 0, 4);
        PostageCounter y = withSheet(2, 5, 3);
        tears("all but four", y, 1, fromTo(4, 14));
        tears("0 and 3 rather than 1 and 2", y, 1, 0, 3);
    }

    // ---- "Of three or more: those of the greatest numbers."

    private static void threeSquares() {
        tears("the only three", withSheet(2, 1, 3), 0, 0, 1, 2);
        tears("three of four", withSheet(2, 1, 4), 1, 1, 2, 3);
        tears("three, though more pieces are left", withSheet(2, 7, 1, 1, 3), 2, 4, 5, 6);
        tears("three, though lone ones are left", withSheet(2, 8, 1, 1, 3), 3, 5, 6, 7);
        tears("three, over a missing row", withSheet(2, 8, 1, 6), 1, 4, 5, 7);
        tears("three, the last row is missing", withSheet(2, 8, 8, 7), 1, 53, 54, 55);
        tears("three of 64", withSheet(2, 8, 8), 1, 61, 62, 63);
        tears("63 of 64", withSheet(2, 8, 8), 1, fromTo(1, 63));
        PostageCounter x = withSheet(2, 2, 3);
        tears("three of six", x, 1, 3, 4, 5);
        tears("three of three", x, 0, 0, 1, 2);
        PostageCounter y = withSheet(2, 1, 8);
        tears("three", y, 1, 5, 6, 7);
        tears("four, those torn are passed over", y, 1, 1, 2, 3, 4);
    }

    // ---- "Of a PAIR likewise, with pairs of squares for squares (one or two pairs; three or more), a pair being numbered by its first square."

    private static void onePair() {
        tears("the only pair", withSheet(3, 1, 2), 0, 0, 1);
        tears("one of two", withSheet(3, 1, 4), 1, 0, 1);
        tears("one of three", withSheet(3, 1, 6), 1, 0, 1);
        tears("one of 32", withSheet(3, 8, 8), 1, 0, 1);
        tears("a lone pair behind", withSheet(3, 8, 2, 6), 1, 14, 15);
        tears("a lone pair in the middle", withSheet(3, 7, 2, 2, 4), 2, 6, 7);
        PostageCounter x = withSheet(3, 3, 4);
        tears("the last three pairs", x, 1, fromTo(6, 11));
        tears("neither the pair between nor ..", x, 1, 2, 3);
    }

    private static void twoPairs() {
        tears("the only two", withSheet(3, 1, 4), 0, 0, 1, 2, 3);
        tears("two of three", withSheet(3, 1, 6), 1, 0, 1, 2, 3);
        tears("two of four", withSheet(3, 2, 4), 1, 0, 1, 2, 3);
        tears("two of 32", withSheet(3, 8, 8), 1, 0, 1, 2, 3);
        tears("two lone ones", withSheet(3, 8, 2, 2, 4, 6), 2, 6, 7, 10, 11);
        tears("a piece of two behind", withSheet(3, 8, 2, 5), 1, 12, 13, 14, 15);
        tears("a lone one and the first that parts nothing", withSheet(3, 8, 2, 6), 1, 0, 1, 14, 15);
        tears("two lone ones rather than a piece of two", withSheet(3, 6, 2, 2, 4), 1, 6, 7, 10, 11);
        tears("a piece of two goes like a lone one and another", withSheet(3, 8, 2, 2, 4, 5), 2, 0, 1, 2, 3);
        tears("a lone one and another go like a piece of two", withSheet(3, 8, 2, 1, 4, 5), 2, 0, 1, 4, 5);
        tears("the lesser pair first", withSheet(3, 8, 2, 3, 6), 2, 0, 1, 14, 15);
    }

    private static void threePairs() {
        tears("the only three", withSheet(3, 1, 6), 0, fromTo(0, 5));
        tears("three of four", withSheet(3, 1, 8), 1, fromTo(2, 7));
        tears("three, though lone ones are left", withSheet(3, 8, 2, 1, 3), 3, fromTo(10, 15));
        tears("three, over a missing row", withSheet(3, 8, 2, 6), 1, 8, 9, 10, 11, 14, 15);
        tears("three of 32", withSheet(3, 8, 8), 1, fromTo(58, 63));
        tears("31 of 32", withSheet(3, 8, 8), 1, fromTo(2, 63));
    }

    // ---- "The PIECES of a PAIR's rest are counted as of a BLOCK's."

    private static void piecesOfAPairsRest() {
        PostageCounter x = withSheet(3, 2, 4);
        tears("the first pair", x, 1, 0, 1);
        tears("the second: the rest is a row", x, 1, 2, 3);
        PostageCounter y = withSheet(3, 3, 4);
        tears("the first pair", y, 1, 0, 1);
        tears("two pairs more", y, 1, 2, 3, 4, 5);
        PostageCounter z = withSheet(3, 3, 4);
        tears("the first pair", z, 1, 0, 1);
        tears("all but two pairs that touch with a corner", z, 2, fromTo(6, 11));
        tears("the lesser of them", z, 1, 2, 3);
        PostageCounter a = withSheet(3, 3, 6);
        tears("the first two pairs", a, 1, 0, 1, 2, 3);
        tears("all but the end of a row and the beginning of the next", a, 2, fromTo(8, 17));
        Due.is("that row's end", a.look(0, 3, 0, 2), 2);
        Due.is("the next one's beginning", a.look(0, 3, 1, 0), 2);
        Due.is("no row is missing", a.look(0, 3, 2, 0) == NOTHING ? 1 : 0, 0);
    }

    // ---- all of it, sheet by sheet

    private static final int[][] GIVEN = {{1, 1, 1, 2}, {2, 2, 1}, {2, 1, 3}, {3, 1, 2}, {4, 1, 1}, {5, 2, 1}, {1, 6, 1, 2}};

    private static void allSmallSheets() {
        for (int rows = 1; rows <= 4; rows++) {
            for (int columns = 1; columns <= 5; columns++) {
                for (int missing = 0; missing < 1 << rows; missing++) {
                    asTheNaiveOne(2, rows, columns, missing);
                }
            }
        }
        for (int rows = 1; rows <= 5; rows++) {
            for (int columns = 2; columns <= 6; columns += 2) {
                for (int missing = 0; missing < 1 << rows; missing++) {
                    asTheNaiveOne(3, rows, columns, missing);
                }
            }
        }
    }

    private static void someGreatSheets() {
        for (int missing : new int[] {0, 1, 2, 4, 0x40, 0x80, 0x81, 0x18, 0xaa, 0x55, 0x7e, 0xfe, 0x7f}) {
            asTheNaiveOne(2, 8, 1, missing);
            asTheNaiveOne(2, 8, 3, missing);
            asTheNaiveOne(2, 8, 8, missing);
            asTheNaiveOne(3, 8, 2, missing);
            asTheNaiveOne(3, 8, 8, missing);
        }
    }

    private static void asTheNaiveOne(int kind, int rows, int columns, int missing) {
        for (int[] given : GIVEN) {
            PostageCounter x = new PostageCounter();
            NaiveCounter y = new NaiveCounter();
            x.sheet(0, kind, rows, columns, 1);
            y.sheet(0, kind, rows, columns, 1);
            for (int row = 0; row < rows; row++) {
                if ((missing >> row & 1) != 0) {
                    x.lack(0, row);
                    y.lack(0, row);
                }
            }
            for (int i = 0; i < given.length; i++) {
                int price = given[i] * (kind - 1);
                x.rate(i, 1, price);
                y.rate(i, 1, price);
                x.letter(i, 1f, 0);
                y.letter(i, 1f, 0);
                String what = kind + ": " + rows + " x " + columns + " without " + missing + ", letter " + i;
                Due.is(what + " pays", x.pay(i), y.pay(i));
                for (int j = 0; j <= price; j++) {
                    Due.is(what + " square " + j, x.torn(i, j), y.torn(i, j));
                }
                Due.is(what + " pieces", x.holding(0, 4), y.holding(0, 4));
            }
        }
    }
}
