/**
 * Promises 1 to 5, sentence by sentence where one names an edge: the last number that is taken and the first one that is
 * refused, empty and full, which refusal comes first, and that what refuses or finds changes nothing.
 */
public final class EdgeDrawerTest {
    private static final int NONE = Scene.NONE, OUTSIDE = Scene.OUTSIDE, BUSY = Scene.BUSY, FULL = Scene.FULL;
    private static final int NOTHING = Scene.NOTHING, INDEX = Scene.INDEX;
    private static final int[] PLACES_BEYOND = Scene.beyond(0, 9), FACES_BEYOND = Scene.beyond(1, 500);
    private static final int[] LOOSE_BEYOND = Scene.beyond(0, 60);

    private static final Scene EMPTY = Scene.EMPTY, RICH = Scene.RICH, FULL_DRAWER = Scene.FULL_DRAWER;
    /** A STRIP without stamps at place 0, and two FACES on THE REEL. */
    private static final Scene EMPTY_STRIP = new Scene("empty strip", x -> {
        x.strip(0);
        x.reel(5);
        x.reel(6);
    });
    private static final Scene FULL_REEL = new Scene("full reel", x -> {
        x.pile(1, 3, 3);
        for (int i = 1; i <= 40; i++) {
            x.reel(i);
        }
    });
    private static final Scene ONE_FREE_ON_THE_REEL = new Scene("one free on the reel", x -> {
        x.pile(1, 3, 3);
        for (int i = 1; i <= 39; i++) {
            x.reel(i);
        }
    });
    public static void main(String[] args) {
        aNewObject();
        objectsAreApart();
        constants();
        pileTakes();
        pileOutside();
        pileBusy();
        overTakes();
        overOutside();
        overBusy();
        reelTakesFaces();
        reelFull();
        reelIsNoAct();
        stripTakes();
        stripOutsideAndBusy();
        theReelIsEmptyThen();
        Due.end("EdgeDrawerTest");
    }

    // ---- 1: "Nothing is in the drawer; no STEPS, no letters; THE REEL is empty."

    private static void aNewObject() {
        for (int place = 0; place < 10; place++) {
            int here = place;
            for (int what = 0; what <= 4; what++) {
                int it = what;
                EMPTY.same("1 holding", x -> x.holding(here, it), NOTHING);
                EMPTY.same("1 look", x -> x.look(here, it, 0, 0), NOTHING);
            }
            EMPTY.same("1 lack", x -> x.lack(here, 0), NOTHING);
            EMPTY.same("1 clear", x -> x.clear(here), NOTHING);
        }
        for (int way = 0; way < 6; way++) {
            int its = way;
            EMPTY.same("1 price", x -> x.price(its, 0f, 0), NONE);
            EMPTY.same("1 letter", x -> x.letter(its, 0f, 15), NONE);
        }
        for (int what = 0; what <= 9; what++) {
            int it = what;
            EMPTY.same("1 day", x -> x.day(it), 0);
        }
        EMPTY.same("1 told", x -> x.told(0, 0), OUTSIDE);
        EMPTY.same("1 given", x -> x.given(0, 0), OUTSIDE);
        EMPTY.same("1 torn", x -> x.torn(0, 0), OUTSIDE);
        EMPTY.same("1 pay", x -> x.pay(0), OUTSIDE);
        EMPTY.same("1 fewest 0", x -> x.fewest(0), 0);
        EMPTY.same("1 fewest 1", x -> x.fewest(1), NONE);
        EMPTY.same("1 least 0", x -> x.least(0), 0);
        EMPTY.same("1 least 1", x -> x.least(1), NONE);
        EMPTY.same("1 undo", PostageCounter::undo, NONE);
        EMPTY.act("1 the empty reel", x -> x.strip(0), 0);
        for (int k = 0; k < 4; k++) {
            int it = k;
            EMPTY.act("2 RATES: each costs 0 at first", x -> x.extra(it, 200), 0);
        }
        PostageCounter x = new PostageCounter();
        for (int face = 1; face <= 500; face++) {
            Due.is("1 gone", x.gone(face), 0);
        }
    }

    private static void objectsAreApart() {
        PostageCounter x = Scene.RICH.made();
        PostageCounter y = new PostageCounter();
        Due.is("1 another object's reel", y.day(8), 0);
        Due.is("1 another object's place", y.holding(0, 0), NOTHING);
        Due.is("1 another object's letters", y.told(0, 0), OUTSIDE);
        Due.is("1 another object's acts", y.undo(), NONE);
        Due.is("1 another object's steps", y.price(0, 1f, 0), NONE);
        y.pile(0, 5, 5);
        y.fewest(25);
        Due.is("1 it has its own", x.holding(0, 2), 11);
        Due.is("1 and pays of its own", x.least(5), 11);
    }

    private static void constants() {
        int[] got = {
            PostageCounter.NONE, PostageCounter.OUTSIDE, PostageCounter.BUSY, PostageCounter.FULL,
            PostageCounter.NOTHING, PostageCounter.CAST, PostageCounter.INDEX, PostageCounter.SIZE
        };
        int[] due = {-1, -3, -4, -5, -11, -12, -13, -14};
        for (int i = 0; i < due.length; i++) {
            Due.is("constant " + i, got[i], due[i]);
        }
    }

    // ---- 2: "A place holds n loose stamps (0 .. 60) of a FACE, a PLAIN: n. OUTSIDE; BUSY."

    private static void pileTakes() {
        for (int place = 0; place <= 9; place++) {
            int here = place;
            EMPTY.act("2 place " + place, x -> x.pile(here, 7, 3), 3);
        }
        for (int face : new int[] {1, 2, 499, 500}) {
            for (int n : new int[] {0, 1, 59, 60}) {
                EMPTY.act("2 " + n + " of " + face, x -> x.pile(9, face, n), n);
                PostageCounter x = new PostageCounter();
                x.pile(9, face, n);
                int[] due = {0, n, face, n * face, n == 0 ? 0 : 1};
                for (int what = 0; what <= 4; what++) {
                    Due.is("2 holding " + what, x.holding(9, what), due[what]);
                }
            }
        }
        RICH.act("2 the place that is free", x -> x.pile(9, 500, 60), 60);
    }

    private static void pileOutside() {
        for (int place : PLACES_BEYOND) {
            EMPTY.same("2 place " + place, x -> x.pile(place, 1, 1), OUTSIDE);
        }
        for (int face : FACES_BEYOND) {
            EMPTY.same("2 face " + face, x -> x.pile(9, face, 1), OUTSIDE);
        }
        for (int n : LOOSE_BEYOND) {
            EMPTY.same("2 n " + n, x -> x.pile(9, 1, n), OUTSIDE);
        }
        RICH.same("2 place", x -> x.pile(10, 1, 1), OUTSIDE);
        RICH.same("2 face", x -> x.pile(9, 501, 1), OUTSIDE);
        RICH.same("2 n", x -> x.pile(9, 1, 61), OUTSIDE);
    }

    private static void pileBusy() {
        for (int place = 0; place <= 8; place++) {
            int here = place;
            RICH.same("2 busy " + place, x -> x.pile(here, 1, 1), BUSY);
            RICH.same("2 busy, none " + place, x -> x.pile(here, 500, 0), BUSY);
            for (int face : Scene.justBeyond(1, 500)) {
                RICH.same("2 outside before busy, face", x -> x.pile(here, face, 1), OUTSIDE);
            }
            for (int n : Scene.justBeyond(0, 60)) {
                RICH.same("2 outside before busy, n", x -> x.pile(here, 1, n), OUTSIDE);
            }
        }
        EMPTY_STRIP.same("2 busy by an empty strip", x -> x.pile(0, 1, 1), BUSY);
        for (int place = 0; place <= 9; place++) {
            int here = place;
            FULL_DRAWER.same("2 all are busy", x -> x.pile(here, 1, 1), BUSY);
        }
    }

    // ---- 3: "Likewise an OVER: with an old FACE and the one that is printed on it. OUTSIDE; BUSY."

    private static void overTakes() {
        for (int place = 0; place <= 9; place++) {
            int here = place;
            EMPTY.act("3 place " + place, x -> x.over(here, 6, 7, 3), 3);
        }
        for (int old : new int[] {1, 500}) {
            for (int face : new int[] {1, 500}) {
                for (int n : new int[] {0, 1, 60}) {
                    EMPTY.act("3 " + n + " of " + face, x -> x.over(0, old, face, n), n);
                    PostageCounter x = new PostageCounter();
                    x.over(0, old, face, n);
                    int[] due = {4, n, face, n * face, n == 0 ? 0 : 1};
                    for (int what = 0; what <= 4; what++) {
                        Due.is("3 holding " + what, x.holding(0, what), due[what]);
                    }
                    Due.is("3 its old face", x.look(0, 4, 0, 0), old);
                }
            }
        }
        RICH.act("3 the place that is free", x -> x.over(9, 500, 1, 60), 60);
    }

    private static void overOutside() {
        for (int place : PLACES_BEYOND) {
            EMPTY.same("3 place " + place, x -> x.over(place, 1, 1, 1), OUTSIDE);
        }
        for (int face : FACES_BEYOND) {
            EMPTY.same("3 old " + face, x -> x.over(0, face, 1, 1), OUTSIDE);
            EMPTY.same("3 face " + face, x -> x.over(0, 1, face, 1), OUTSIDE);
        }
        for (int n : LOOSE_BEYOND) {
            EMPTY.same("3 n " + n, x -> x.over(0, 1, 1, n), OUTSIDE);
        }
        RICH.same("3 place", x -> x.over(-1, 1, 1, 1), OUTSIDE);
        RICH.same("3 old", x -> x.over(9, 501, 1, 1), OUTSIDE);
        RICH.same("3 face", x -> x.over(9, 1, 501, 1), OUTSIDE);
        RICH.same("3 n", x -> x.over(9, 1, 1, 61), OUTSIDE);
    }

    private static void overBusy() {
        for (int place = 0; place <= 8; place++) {
            int here = place;
            RICH.same("3 busy " + place, x -> x.over(here, 1, 1, 1), BUSY);
            RICH.same("3 busy, none " + place, x -> x.over(here, 1, 1, 0), BUSY);
            for (int face : Scene.justBeyond(1, 500)) {
                RICH.same("3 outside before busy, old", x -> x.over(here, face, 1, 1), OUTSIDE);
                RICH.same("3 outside before busy, face", x -> x.over(here, 1, face, 1), OUTSIDE);
            }
            for (int n : Scene.justBeyond(0, 60)) {
                RICH.same("3 outside before busy, n", x -> x.over(here, 1, 1, n), OUTSIDE);
            }
        }
        EMPTY_STRIP.same("3 busy by an empty strip", x -> x.over(0, 1, 1, 1), BUSY);
    }

    // ---- 4: "A FACE comes behind THE REEL: how many it has. OUTSIDE; FULL: it has 40."

    private static void reelTakesFaces() {
        for (int face : new int[] {1, 2, 499, 500}) {
            PostageCounter x = new PostageCounter();
            Due.is("4 face " + face, x.reel(face), 1);
            x.strip(0);
            Due.is("4 it is that face", x.look(0, 1, 0, 0), face);
        }
        for (int face : FACES_BEYOND) {
            EMPTY.same("4 face " + face, x -> x.reel(face), OUTSIDE);
        }
        for (int face : Scene.justBeyond(1, 500)) {
            RICH.same("4 face " + face, x -> x.reel(face), OUTSIDE);
            ONE_FREE_ON_THE_REEL.same("4 face " + face, x -> x.reel(face), OUTSIDE);
        }
    }

    private static void reelFull() {
        PostageCounter x = ONE_FREE_ON_THE_REEL.made();
        Due.is("4 39 are on it", x.day(8), 39);
        Due.is("4 the last that it takes", x.reel(500), 40);
        Due.is("4 the first that it does not", x.reel(499), FULL);
        Due.is("4 it has 40", x.day(8), 40);
        FULL_REEL.same("4 full", y -> y.reel(1), FULL);
        FULL_REEL.same("4 full", y -> y.reel(500), FULL);
        for (int face : FACES_BEYOND) {
            FULL_REEL.same("4 outside before full", y -> y.reel(face), OUTSIDE);
        }
        x.strip(0);
        Due.is("4 the refused one is not in the strip", x.holding(0, 1), 40);
        Due.is("4 the last one is", x.look(0, 1, 39, 0), 500);
        Due.is("4 it takes one again", x.reel(1), 1);
        for (int i = 2; i <= 40; i++) {
            Due.is("4 and more", x.reel(2), i);
        }
        Due.is("4 and is full again", x.reel(2), FULL);
    }

    private static void reelIsNoAct() {
        PostageCounter x = FULL_REEL.made();
        Due.is("4 ACTS: reel is none", x.day(9), 1);
        Due.is("4 ACTS: undo takes the pile", x.undo(), 0);
        Due.is("4 ACTS: and leaves the reel", x.day(8), 40);
        Due.is("4 ACTS: none is kept", x.undo(), NONE);
        Due.is("4 ACTS: the reel stays", x.day(8), 40);
    }

    // ---- 5: "A place holds THE REEL's stamps in their order, a STRIP; THE REEL is empty then: how many. OUTSIDE; BUSY."

    private static void stripTakes() {
        for (int place = 0; place <= 9; place++) {
            int here = place;
            EMPTY.act("5 of an empty reel, at place " + place, x -> x.strip(here), 0);
        }
        for (int count : new int[] {0, 1, 2, 39, 40}) {
            PostageCounter x = new PostageCounter();
            for (int i = 1; i <= count; i++) {
                x.reel(10 + i);
            }
            Due.is("5 how many", x.strip(4), count);
            int[] due = {1, count, count == 0 ? 0 : 10 + count, 10 * count + count * (count + 1) / 2, count == 0 ? 0 : 1};
            for (int what = 0; what <= 4; what++) {
                Due.is("5 of " + count + " holding " + what, x.holding(4, what), due[what]);
            }
            for (int i = 0; i < count; i++) {
                Due.is("5 in their order", x.look(4, 1, i, 0), 11 + i);
            }
            Due.is("5 no more", x.look(4, 1, count, 0), INDEX);
            Due.is("5 the reel is empty then", x.day(8), 0);
            Due.is("5 an act", x.day(9), 1);
            Due.is("5 which is taken back", x.undo(), 0);
            Due.is("5 the place holds nothing again", x.holding(4, 1), NOTHING);
            Due.is("4 ACTS: but for the reel", x.day(8), 0);
        }
    }

    private static void stripOutsideAndBusy() {
        for (int place : PLACES_BEYOND) {
            EMPTY.same("5 place " + place, x -> x.strip(place), OUTSIDE);
            ONE_FREE_ON_THE_REEL.same("5 place " + place, x -> x.strip(place), OUTSIDE);
        }
        for (int place = 0; place <= 8; place++) {
            int here = place;
            RICH.same("5 busy " + place, x -> x.strip(here), BUSY);
        }
        FULL_REEL.same("5 busy, and the reel stays", x -> x.strip(1), BUSY);
        EMPTY_STRIP.same("5 busy by an empty strip", x -> x.strip(0), BUSY);
    }

    private static void theReelIsEmptyThen() {
        PostageCounter x = FULL_REEL.made();
        x.strip(0);
        Due.is("5 a second strip is empty", x.strip(2), 0);
        x.reel(77);
        Due.is("5 a later stamp is not the first strip's", x.look(0, 1, 0, 0), 1);
        Due.is("5 nor the second one's", x.look(2, 1, 0, 0), INDEX);
        Due.is("5 a third strip", x.strip(3), 1);
        Due.is("5 has it alone", x.look(3, 1, 0, 0), 77);
        Due.is("5 the first strip's end", x.look(0, 1, 39, 0), 40);
    }
}
