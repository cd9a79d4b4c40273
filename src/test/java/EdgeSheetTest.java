/**
 * Promises 6 to 10, sentence by sentence where one names an edge: the last number that is taken and the first one that is
 * refused, empty and full, which refusal comes first, and that what refuses or finds changes nothing.
 */
public final class EdgeSheetTest {
    private static final int OUTSIDE = Scene.OUTSIDE, BUSY = Scene.BUSY;
    private static final int NOTHING = Scene.NOTHING, CAST = Scene.CAST, INDEX = Scene.INDEX, SIZE = Scene.SIZE;
    private static final int LOW = Scene.LOW, HIGH = Scene.HIGH;
    private static final int[] PLACES_BEYOND = Scene.beyond(0, 9);

    private static final Scene EMPTY = Scene.EMPTY, RICH = Scene.RICH, FULL_DRAWER = Scene.FULL_DRAWER;
    /** A STRIP without stamps at place 0, and one with a stamp at place 1. */
    private static final Scene STRIPS = new Scene("strips", x -> {
        x.strip(0);
        x.reel(500);
        x.strip(1);
    });
    /** Sheets of all sides: a BLOCK of 8 x 8, a PAIR of 8 x 8, a BLOCK of 1 x 8, one of 8 x 1, a PAIR of 1 x 2. */
    private static final Scene SHEETS = new Scene("sheets", x -> {
        x.sheet(0, 2, 8, 8, 1);
        x.sheet(1, 3, 8, 8, 2);
        x.sheet(2, 2, 1, 8, 3);
        x.sheet(3, 2, 8, 1, 4);
        x.sheet(4, 3, 1, 2, 5);
        x.lack(0, 3);
        x.lack(1, 0);
        x.lack(1, 7);
    });

    public static void main(String[] args) {
        sheetTakes();
        sheetOutside();
        sheetAboveEight();
        sheetBusy();
        sheetBelowZero();
        sheetZeroOrOdd();
        lackTakes();
        lackOutsideAndNothing();
        lackCast();
        lackIndex();
        lackMissing();
        clearTakes();
        clearOutsideAndNothing();
        lookAtHowMany();
        lookAtStamps();
        lookAtSquares();
        lookAtPairs();
        lookAtTheOldFace();
        lookOutside();
        lookNothing();
        lookCast();
        lookMissing();
        holdingKinds();
        holdingWithoutStamps();
        holdingOutsideAndNothing();
        holdingTheMost();
        Due.end("EdgeSheetTest");
    }

    // ---- 6: "A place holds a sheet of a KIND (2, 3), of rows and columns, all squares with a stamp of a FACE: how many squares."

    private static void sheetTakes() {
        for (int place = 0; place <= 9; place++) {
            int here = place;
            EMPTY.act("6 place " + place, x -> x.sheet(here, 2, 2, 3, 7), 6);
        }
        for (int face : new int[] {1, 500}) {
            EMPTY.act("6 face " + face, x -> x.sheet(9, 3, 1, 2, face), 2);
        }
        for (int rows = 1; rows <= 8; rows++) {
            for (int columns = 1; columns <= 8; columns++) {
                sheetOf(2, rows, columns);
                if (columns % 2 == 0) {
                    sheetOf(3, rows, columns);
                } else {
                    int r = rows;
                    int c = columns;
                    EMPTY.same("6 OUTSIDE: of a pair, the columns odd", x -> x.sheet(0, 3, r, c, 9), OUTSIDE);
                }
            }
        }
        RICH.act("6 the place that is free", x -> x.sheet(9, 3, 8, 8, 500), 64);
    }

    private static void sheetOf(int kind, int rows, int columns) {
        PostageCounter x = new PostageCounter();
        Due.is("6 how many squares", x.sheet(0, kind, rows, columns, 9), rows * columns);
        int[] due = {kind, rows * columns, 9, 9 * rows * columns, 1};
        for (int what = 0; what <= 4; what++) {
            Due.is("6 holding " + what, x.holding(0, what), due[what]);
        }
        for (int row = -1; row <= rows; row++) {
            for (int column = -1; column <= columns; column++) {
                boolean there = row >= 0 && row < rows && column >= 0 && column < columns;
                Due.is("6 all squares with a stamp", x.look(0, 2, row, column), there ? 9 : INDEX);
            }
        }
        for (int pair = -1; pair <= columns / 2; pair++) {
            boolean there = pair >= 0 && pair < columns / 2;
            Due.is("6 its pairs", x.look(0, 3, rows - 1, pair), kind == 2 ? CAST : there ? 18 : INDEX);
        }
    }

    // ---- 6: "OUTSIDE: place, kind, face, rows or columns above 8; BUSY; SIZE: rows or columns below 0; OUTSIDE: these are 0, or, of a PAIR, the columns odd."

    private static void sheetOutside() {
        for (int place : PLACES_BEYOND) {
            EMPTY.same("6 place " + place, x -> x.sheet(place, 2, 1, 1, 1), OUTSIDE);
        }
        for (int kind : Scene.beyond(2, 3)) {
            EMPTY.same("6 kind " + kind, x -> x.sheet(0, kind, 2, 2, 1), OUTSIDE);
        }
        for (int face : Scene.beyond(1, 500)) {
            EMPTY.same("6 face " + face, x -> x.sheet(0, 3, 2, 2, face), OUTSIDE);
        }
        for (int kind : new int[] {0, 1, 4, 5}) {
            RICH.same("6 the other kinds", x -> x.sheet(9, kind, 2, 2, 1), OUTSIDE);
            RICH.same("6 kind before size", x -> x.sheet(9, kind, -1, 2, 1), OUTSIDE);
            RICH.same("6 kind before busy", x -> x.sheet(0, kind, 2, 2, 1), OUTSIDE);
        }
        for (int face : Scene.justBeyond(1, 500)) {
            RICH.same("6 face before size", x -> x.sheet(9, 2, 2, -1, face), OUTSIDE);
            RICH.same("6 face before busy", x -> x.sheet(0, 2, 2, 2, face), OUTSIDE);
        }
        for (int place : Scene.justBeyond(0, 9)) {
            RICH.same("6 place before size", x -> x.sheet(place, 2, -1, -1, 1), OUTSIDE);
        }
    }

    private static void sheetAboveEight() {
        for (int above : new int[] {9, 10, 16, 64, 256, 65536, 1 << 30, HIGH}) {
            for (int kind = 2; kind <= 3; kind++) {
                int its = kind;
                EMPTY.same("6 rows " + above, x -> x.sheet(0, its, above, 2, 1), OUTSIDE);
                EMPTY.same("6 columns " + above, x -> x.sheet(0, its, 2, above, 1), OUTSIDE);
                EMPTY.same("6 rows and columns " + above, x -> x.sheet(0, its, above, above, 1), OUTSIDE);
                RICH.same("6 rows above before busy", x -> x.sheet(0, its, above, 2, 1), OUTSIDE);
                RICH.same("6 columns above before busy", x -> x.sheet(0, its, 2, above, 1), OUTSIDE);
                EMPTY.same("6 rows above before columns below", x -> x.sheet(0, its, above, -1, 1), OUTSIDE);
                EMPTY.same("6 columns above before rows below", x -> x.sheet(0, its, -1, above, 1), OUTSIDE);
            }
        }
    }

    private static void sheetBusy() {
        for (int place = 0; place <= 8; place++) {
            int here = place;
            for (int kind = 2; kind <= 3; kind++) {
                int its = kind;
                RICH.same("6 busy " + place, x -> x.sheet(here, its, 8, 8, 1), BUSY);
            }
            RICH.same("6 busy before size, rows", x -> x.sheet(here, 2, -1, 2, 1), BUSY);
            RICH.same("6 busy before size, columns", x -> x.sheet(here, 3, 2, LOW, 1), BUSY);
            RICH.same("6 busy before 0", x -> x.sheet(here, 2, 0, 0, 1), BUSY);
            RICH.same("6 busy before odd", x -> x.sheet(here, 3, 2, 3, 1), BUSY);
        }
        STRIPS.same("6 busy by an empty strip", x -> x.sheet(0, 2, 1, 1, 1), BUSY);
        for (int place = 0; place <= 9; place++) {
            int here = place;
            FULL_DRAWER.same("6 all are busy", x -> x.sheet(here, 2, 1, 1, 1), BUSY);
        }
    }

    private static void sheetBelowZero() {
        for (int below : new int[] {-1, -2, -8, -64, -65536, LOW + 1, LOW}) {
            for (int kind = 2; kind <= 3; kind++) {
                int its = kind;
                EMPTY.same("6 rows " + below, x -> x.sheet(0, its, below, 2, 1), SIZE);
                EMPTY.same("6 columns " + below, x -> x.sheet(0, its, 2, below, 1), SIZE);
                EMPTY.same("6 both " + below, x -> x.sheet(0, its, below, below, 1), SIZE);
                EMPTY.same("6 size before 0 rows", x -> x.sheet(0, its, 0, below, 1), SIZE);
                EMPTY.same("6 size before 0 columns", x -> x.sheet(0, its, below, 0, 1), SIZE);
                EMPTY.same("6 size before odd", x -> x.sheet(0, its, below, 3, 1), SIZE);
                RICH.same("6 size", x -> x.sheet(9, its, below, 8, 1), SIZE);
            }
        }
    }

    private static void sheetZeroOrOdd() {
        for (int kind = 2; kind <= 3; kind++) {
            int its = kind;
            EMPTY.same("6 rows 0", x -> x.sheet(0, its, 0, 2, 1), OUTSIDE);
            EMPTY.same("6 columns 0", x -> x.sheet(0, its, 2, 0, 1), OUTSIDE);
            EMPTY.same("6 both 0", x -> x.sheet(0, its, 0, 0, 1), OUTSIDE);
            RICH.same("6 rows 0", x -> x.sheet(9, its, 0, 8, 1), OUTSIDE);
        }
        RICH.same("6 odd", x -> x.sheet(9, 3, 8, 7, 1), OUTSIDE);
        RICH.act("6 a block's may be odd", x -> x.sheet(9, 2, 8, 7, 1), 56);
        RICH.act("6 a pair's rows may be odd", x -> x.sheet(9, 3, 7, 8, 1), 56);
    }

    // ---- 7: "A row of the BLOCK at a place is MISSING from now on: how many stamps it had."

    private static void lackTakes() {
        RICH.act("7 a row with a torn square", x -> x.lack(2, 0), 2);
        RICH.act("7 a whole row", x -> x.lack(2, 1), 3);
        RICH.act("7 the last row", x -> x.lack(2, 3), 3);
        RICH.act("7 a pair is a block, too: a row with a torn pair", x -> x.lack(3, 0), 2);
        RICH.act("7 its last row", x -> x.lack(3, 2), 4);
        int[][] counts = {{8, 8, 8, NOTHING, 8, 8, 8, 8}, {NOTHING, 8, 8, 8, 8, 8, 8, NOTHING}, {8}, {1, 1, 1, 1, 1, 1, 1, 1}, {2}};
        for (int place = 0; place < counts.length; place++) {
            for (int row = 0; row < counts[place].length; row++) {
                int here = place;
                int its = row;
                int due = counts[place][row];
                if (due >= 0) {
                    SHEETS.act("7 row " + row + " of " + place, x -> x.lack(here, its), due);
                } else {
                    SHEETS.same("7 missing row " + row + " of " + place, x -> x.lack(here, its), due);
                }
            }
        }
        PostageCounter x = SHEETS.made();
        x.lack(0, 5);
        for (int square = 0; square < 64; square++) {
            int row = square / 8;
            int due = row == 3 || row == 5 ? NOTHING : 1;
            Due.is("7 that row alone is missing", x.look(0, 2, row, square % 8), due);
        }
        PostageCounter y = new PostageCounter();
        y.sheet(0, 2, 2, 1, 10);
        y.rate(0, 10, 10);
        y.letter(0, 1f, 0);
        y.pay(0);
        Due.is("7 of a row of which all is torn", y.lack(0, 0), 0);
        Due.is("7 which is an act, too", y.day(9), 5);
        Due.is("7 it is missing from now on", y.look(0, 2, 0, 0), NOTHING);
        y.undo();
        Due.is("7 and torn again", y.look(0, 2, 0, 0), 0);
    }

    // ---- 7: "OUTSIDE: place; NOTHING: it holds nothing; CAST; INDEX: no such row; NOTHING: it is MISSING."

    private static void lackOutsideAndNothing() {
        for (int place : PLACES_BEYOND) {
            EMPTY.same("7 place " + place, x -> x.lack(place, 0), OUTSIDE);
        }
        for (int place : Scene.justBeyond(0, 9)) {
            RICH.same("7 place before row", x -> x.lack(place, -1), OUTSIDE);
        }
        for (int row : new int[] {0, -1, 8, LOW, HIGH}) {
            EMPTY.same("7 nothing before row", x -> x.lack(0, row), NOTHING);
            RICH.same("7 nothing before row", x -> x.lack(9, row), NOTHING);
        }
        PostageCounter x = RICH.made();
        x.clear(2);
        Due.is("7 of a cleared place", x.lack(2, 0), NOTHING);
    }

    private static void lackCast() {
        for (int place : new int[] {0, 1, 4, 5, 6}) {
            for (int row : new int[] {0, -1, LOW, HIGH}) {
                RICH.same("7 cast before row, place " + place, x -> x.lack(place, row), CAST);
            }
        }
        STRIPS.same("7 cast of an empty strip", x -> x.lack(0, 0), CAST);
    }

    private static void lackIndex() {
        for (int row : Scene.beyond(0, 3)) {
            RICH.same("7 row " + row, x -> x.lack(2, row), INDEX);
        }
        for (int row : Scene.beyond(0, 2)) {
            RICH.same("7 row " + row + " of a pair", x -> x.lack(3, row), INDEX);
        }
        for (int row : Scene.beyond(0, 7)) {
            SHEETS.same("7 row " + row + " of 8", x -> x.lack(0, row), INDEX);
        }
        for (int row : Scene.beyond(0, 0)) {
            RICH.same("7 row " + row + " of one that is missing", x -> x.lack(7, row), INDEX);
            SHEETS.same("7 row " + row + " of one", x -> x.lack(4, row), INDEX);
        }
    }

    private static void lackMissing() {
        RICH.same("7 missing", x -> x.lack(2, 2), NOTHING);
        RICH.same("7 missing, of a pair", x -> x.lack(3, 1), NOTHING);
        RICH.same("7 all is missing", x -> x.lack(7, 0), NOTHING);
        RICH.same("7 all is missing, of a pair", x -> x.lack(8, 0), NOTHING);
    }

    // ---- 8: "A place holds nothing from now on: 1. OUTSIDE; NOTHING."

    private static void clearTakes() {
        for (int place = 0; place <= 8; place++) {
            int here = place;
            RICH.act("8 place " + place, x -> x.clear(here), 1);
            PostageCounter x = RICH.made();
            x.clear(place);
            for (int other = 0; other <= 9; other++) {
                int due = other == place || other == 9 ? NOTHING : RICH.made().holding(other, 0);
                Due.is("8 that place alone", x.holding(other, 0), due);
            }
            Due.is("8 again", x.clear(place), NOTHING);
            Due.is("8 it can be filled again", x.pile(place, 1, 1), 1);
        }
        STRIPS.act("8 an empty strip", x -> x.clear(0), 1);
        for (int place = 0; place <= 9; place++) {
            int here = place;
            FULL_DRAWER.act("8 place " + place, x -> x.clear(here), 1);
        }
    }

    private static void clearOutsideAndNothing() {
        for (int place : PLACES_BEYOND) {
            EMPTY.same("8 place " + place, x -> x.clear(place), OUTSIDE);
            RICH.same("8 place " + place, x -> x.clear(place), OUTSIDE);
        }
        RICH.same("8 nothing", x -> x.clear(9), NOTHING);
    }

    // ---- 9: "What is at a place, taken as of a KIND: 0: how many stamps it has (a, b are not looked at)."

    private static void lookAtHowMany() {
        int[] due = {3, 3, 8, 6, 6, 0, 0, 0, 0};
        for (int place = 0; place < due.length; place++) {
            int here = place;
            for (int a : new int[] {0, -1, LOW, HIGH}) {
                RICH.same("9 all are plain, too: place " + place, x -> x.look(here, 0, a, -a), due[here]);
            }
        }
        STRIPS.same("9 an empty strip", x -> x.look(0, 0, 0, 0), 0);
        int[] most = {64, 40, 64, 60, 64, 60, 64, 60, 64, 60};
        for (int place = 0; place <= 9; place++) {
            int here = place;
            FULL_DRAWER.same("9 the most", x -> x.look(here, 0, 0, 0), most[here]);
        }
    }

    // ---- 9: "1: the FACE of stamp a from its beginning." "INDEX: no such stamp"

    private static void lookAtStamps() {
        for (int b : new int[] {0, LOW, HIGH}) {
            RICH.same("9 first stamp", x -> x.look(1, 1, 0, b), 21);
            RICH.same("9 last stamp", x -> x.look(1, 1, 2, b), 23);
            RICH.same("9 the one that was given", x -> x.look(1, 1, 3, b), INDEX);
        }
        for (int a : Scene.beyond(0, 2)) {
            RICH.same("9 stamp " + a, x -> x.look(1, 1, a, 0), INDEX);
        }
        for (int a : Scene.beyond(0, 39)) {
            FULL_DRAWER.same("9 stamp " + a, x -> x.look(1, 1, a, 0), INDEX);
        }
        FULL_DRAWER.same("9 stamp 39", x -> x.look(1, 1, 39, 0), 500);
        for (int a : new int[] {0, -1, 1, 39, 40, LOW, HIGH}) {
            STRIPS.same("9 of an empty strip", x -> x.look(0, 1, a, 0), INDEX);
        }
    }

    // ---- 9: "2: square b of row a: its FACE, 0: torn." "INDEX: no such stamp or row; .. INDEX: no such square"

    private static void lookAtSquares() {
        RICH.same("9 torn", x -> x.look(2, 2, 0, 0), 0);
        RICH.same("9 beside it", x -> x.look(2, 2, 0, 1), 31);
        RICH.same("9 last of the row", x -> x.look(2, 2, 0, 2), 31);
        RICH.same("9 last of all", x -> x.look(2, 2, 3, 2), 31);
        RICH.same("9 a pair is a block, too: torn", x -> x.look(3, 2, 0, 1), 0);
        RICH.same("9 a pair is a block, too", x -> x.look(3, 2, 0, 2), 41);
        for (int b : Scene.beyond(0, 2)) {
            RICH.same("9 square " + b, x -> x.look(2, 2, 0, b), INDEX);
            RICH.same("9 square " + b + " of the last row", x -> x.look(2, 2, 3, b), INDEX);
        }
        for (int b : Scene.beyond(0, 3)) {
            RICH.same("9 square " + b + " of a pair", x -> x.look(3, 2, 2, b), INDEX);
        }
        for (int a : Scene.beyond(0, 3)) {
            RICH.same("9 row " + a, x -> x.look(2, 2, a, 0), INDEX);
            RICH.same("9 row " + a + ", no square", x -> x.look(2, 2, a, 3), INDEX);
        }
        for (int a : Scene.beyond(0, 2)) {
            RICH.same("9 row " + a + " of a pair", x -> x.look(3, 2, a, 0), INDEX);
        }
        for (int a : Scene.beyond(0, 7)) {
            SHEETS.same("9 row " + a + " of 8", x -> x.look(0, 2, a, 0), INDEX);
            SHEETS.same("9 square " + a + " of 8", x -> x.look(0, 2, 7, a), INDEX);
        }
        for (int a : Scene.beyond(0, 0)) {
            SHEETS.same("9 row " + a + " of one", x -> x.look(2, 2, a, 0), INDEX);
            SHEETS.same("9 square " + a + " of one", x -> x.look(3, 2, 0, a), INDEX);
        }
    }

    // ---- 9: "3: the pair of squares 2 b and 2 b + 1 of row a: the sum of their FACES, 0: torn." "INDEX: no such .. pair"

    private static void lookAtPairs() {
        RICH.same("9 torn pair", x -> x.look(3, 3, 0, 0), 0);
        RICH.same("9 the other pair", x -> x.look(3, 3, 0, 1), 82);
        RICH.same("9 last row", x -> x.look(3, 3, 2, 1), 82);
        for (int b : Scene.beyond(0, 1)) {
            RICH.same("9 pair " + b, x -> x.look(3, 3, 0, b), INDEX);
            RICH.same("9 pair " + b + " of the last row", x -> x.look(3, 3, 2, b), INDEX);
        }
        for (int a : Scene.beyond(0, 2)) {
            RICH.same("9 row " + a, x -> x.look(3, 3, a, 0), INDEX);
        }
        for (int b : Scene.beyond(0, 3)) {
            SHEETS.same("9 pair " + b + " of four", x -> x.look(1, 3, 1, b), INDEX);
        }
        for (int b : Scene.beyond(0, 0)) {
            SHEETS.same("9 pair " + b + " of one", x -> x.look(4, 3, 0, b), INDEX);
        }
        for (int b = 0; b < 4; b++) {
            int its = b;
            SHEETS.same("9 pair " + b, x -> x.look(1, 3, 6, its), 4);
        }
        FULL_DRAWER.same("9 the greatest", x -> x.look(2, 3, 7, 3), 1000);
    }

    // ---- 9: "4: the old FACE (a, b are not looked at)."

    private static void lookAtTheOldFace() {
        for (int a : new int[] {0, -1, LOW, HIGH}) {
            RICH.same("9 old face", x -> x.look(4, 4, a, -a), 51);
            RICH.same("9 old face without stamps", x -> x.look(6, 4, a, -a), 61);
        }
    }

    // ---- 9: "OUTSIDE: place, kind; NOTHING; CAST; INDEX: no such stamp or row; NOTHING: the row is MISSING; INDEX: no such square, pair."

    private static void lookOutside() {
        for (int place : PLACES_BEYOND) {
            for (int kind = 0; kind <= 4; kind++) {
                int its = kind;
                EMPTY.same("9 place " + place, x -> x.look(place, its, 0, 0), OUTSIDE);
            }
        }
        for (int kind : Scene.beyond(0, 4)) {
            EMPTY.same("9 kind before nothing", x -> x.look(0, kind, 0, 0), OUTSIDE);
            for (int place = 0; place <= 9; place++) {
                int here = place;
                RICH.same("9 kind " + kind + " at " + place, x -> x.look(here, kind, -1, -1), OUTSIDE);
            }
        }
    }

    private static void lookNothing() {
        for (int kind = 0; kind <= 4; kind++) {
            int its = kind;
            for (int a : new int[] {0, -1, LOW, HIGH}) {
                RICH.same("9 nothing before index", x -> x.look(9, its, a, a), NOTHING);
            }
        }
    }

    /** "WHAT IS OF A KIND: a STRIP, a BLOCK and an OVER are PLAIN ones, too; a PAIR is a BLOCK, too, and so PLAIN." */
    private static void lookCast() {
        int[][] kinds = {{0}, {0, 1}, {0, 2}, {0, 2, 3}, {0, 4}, {0}, {0, 4}, {0, 2}, {0, 2, 3}};
        for (int place = 0; place < kinds.length; place++) {
            int here = place;
            for (int kind = 0; kind <= 4; kind++) {
                int its = kind;
                boolean is = false;
                for (int one : kinds[place]) {
                    is |= one == kind;
                }
                for (int a : new int[] {0, -1, LOW, HIGH}) {
                    if (!is) {
                        RICH.same("9 cast before index: place " + place + " as " + kind, x -> x.look(here, its, a, a), CAST);
                    } else {
                        Due.is("9 is of it: place " + place + " as " + kind, RICH.made().look(here, its, a, a) == CAST ? 1 : 0, 0);
                    }
                }
            }
        }
        for (int kind = 2; kind <= 4; kind++) {
            int its = kind;
            STRIPS.same("9 cast of an empty strip", x -> x.look(0, its, 0, 0), CAST);
        }
    }

    private static void lookMissing() {
        for (int b : new int[] {0, 1, 2, 3, -1, LOW, HIGH}) {
            RICH.same("9 missing before the square " + b, x -> x.look(2, 2, 2, b), NOTHING);
            RICH.same("9 missing before the square " + b + " of a pair", x -> x.look(3, 2, 1, b), NOTHING);
            RICH.same("9 missing before the pair " + b, x -> x.look(3, 3, 1, b), NOTHING);
            RICH.same("9 all missing " + b, x -> x.look(7, 2, 0, b), NOTHING);
            RICH.same("9 all missing, of a pair " + b, x -> x.look(8, 3, 0, b), NOTHING);
        }
        RICH.same("9 no such row before the missing ones", x -> x.look(7, 2, 1, 0), INDEX);
        RICH.same("9 no such row before the missing ones, of a pair", x -> x.look(8, 3, -1, 0), INDEX);
    }

    // ---- 10: "what 0 its KIND .., 1 how many stamps, 2 the FACE .., 3 the sum of all its FACES, 4 its PIECES"

    private static void holdingKinds() {
        int[][] due = {{0, 3, 11, 33, 1}, {1, 3, 23, 66, 1}, {2, 8, 31, 248, 2}, {3, 6, 41, 246, 2}, {4, 6, 52, 312, 1}};
        for (int place = 0; place < due.length; place++) {
            int here = place;
            for (int what = 0; what <= 4; what++) {
                int it = what;
                RICH.same("10 place " + place + " what " + what, x -> x.holding(here, it), due[here][it]);
            }
        }
    }

    /** "also without stamps; of a STRIP that of its last stamp, 0 without one", "without stamps 0 of all" */
    private static void holdingWithoutStamps() {
        int[][] due = {{0, 0, 12, 0, 0}, {4, 0, 62, 0, 0}, {2, 0, 8, 0, 0}, {3, 0, 7, 0, 0}};
        for (int place = 0; place < due.length; place++) {
            int here = 5 + place;
            for (int what = 0; what <= 4; what++) {
                int its = due[place][what];
                int it = what;
                RICH.same("10 place " + here + " what " + what, x -> x.holding(here, it), its);
            }
        }
        int[][] strips = {{1, 0, 0, 0, 0}, {1, 1, 500, 500, 1}};
        for (int place = 0; place < strips.length; place++) {
            int here = place;
            for (int what = 0; what <= 4; what++) {
                int it = what;
                STRIPS.same("10 strip " + place + " what " + what, x -> x.holding(here, it), strips[here][it]);
            }
        }
        givenAway();
    }

    /** 1 THE DRAWER: a HOLDING "stays there (also without stamps) until it is cleared". */
    private static void givenAway() {
        Scene given = new Scene("all given", x -> {
            x.rate(0, 1, 182);
            x.letter(0, 1f, 0);
            x.pile(0, 10, 2);
            x.reel(20);
            x.reel(21);
            x.strip(1);
            x.sheet(2, 2, 1, 2, 11);
            x.sheet(3, 3, 1, 2, 12);
            x.over(4, 9, 25, 3);
            x.pay(0);
        });
        Due.is("10 all is given", given.made().day(5), 0);
        int[][] due = {{0, 0, 10, 0, 0}, {1, 0, 0, 0, 0}, {2, 0, 11, 0, 0}, {3, 0, 12, 0, 0}, {4, 0, 25, 0, 0}};
        for (int place = 0; place < due.length; place++) {
            int here = place;
            for (int what = 0; what <= 4; what++) {
                int it = what;
                given.same("10 given away " + place + " what " + what, x -> x.holding(here, it), due[here][it]);
            }
            given.same("2 busy without stamps", x -> x.pile(here, 1, 1), BUSY);
            given.same("3 busy without stamps", x -> x.over(here, 1, 1, 1), BUSY);
            given.same("5 busy without stamps", x -> x.strip(here), BUSY);
            given.same("6 busy without stamps", x -> x.sheet(here, 2, 1, 1, 1), BUSY);
            given.act("8 cleared", x -> x.clear(here), 1);
        }
        given.same("9 torn squares are not missing", x -> x.look(2, 2, 0, 1), 0);
        given.same("9 torn pairs are not missing", x -> x.look(3, 3, 0, 0), 0);
        given.same("9 the old face stays", x -> x.look(4, 4, 0, 0), 9);
        given.same("9 no stamp is there", x -> x.look(1, 1, 0, 0), INDEX);
        given.act("7 a row without stamps", x -> x.lack(3, 0), 0);
    }

    // ---- 10: "OUTSIDE: place, what; NOTHING."

    private static void holdingOutsideAndNothing() {
        for (int place : PLACES_BEYOND) {
            for (int what = 0; what <= 4; what++) {
                int it = what;
                EMPTY.same("10 place " + place, x -> x.holding(place, it), OUTSIDE);
            }
        }
        for (int what : Scene.beyond(0, 4)) {
            EMPTY.same("10 what before nothing", x -> x.holding(0, what), OUTSIDE);
            for (int place : new int[] {0, 1, 2, 3, 4, 9}) {
                RICH.same("10 what " + what + " at " + place, x -> x.holding(place, what), OUTSIDE);
            }
        }
        for (int what = 0; what <= 4; what++) {
            int it = what;
            RICH.same("10 nothing", x -> x.holding(9, it), NOTHING);
        }
    }

    private static void holdingTheMost() {
        int[] kinds = {2, 1, 3, 0, 2, 0, 3, 4, 2, 4};
        int[] counts = {64, 40, 64, 60, 64, 60, 64, 60, 64, 60};
        for (int place = 0; place <= 9; place++) {
            int here = place;
            FULL_DRAWER.same("10 kind", x -> x.holding(here, 0), kinds[here]);
            FULL_DRAWER.same("10 stamps", x -> x.holding(here, 1), counts[here]);
            FULL_DRAWER.same("10 face", x -> x.holding(here, 2), 500);
            FULL_DRAWER.same("10 sum", x -> x.holding(here, 3), 500 * counts[here]);
            FULL_DRAWER.same("10 pieces", x -> x.holding(here, 4), 1);
        }
    }
}
