/**
 * Promises 16 to 23 and PAYING, sentence by sentence where one names an edge: the last number that is taken and the first
 * one that is refused, empty and full, which refusal comes first, and that what refuses or finds changes nothing.
 */
public final class EdgeLettersTest {
    private static final int NONE = Scene.NONE, OUTSIDE = Scene.OUTSIDE, BUSY = Scene.BUSY;
    private static final int[] PLACES_BEYOND = Scene.beyond(0, 9);

    private static final Scene EMPTY = Scene.EMPTY, RICH = Scene.RICH, FULL_DRAWER = Scene.FULL_DRAWER;
    /** 60 letters of 10; 0 and 59 are paid, by two stamps of 5 each. */
    private static final Scene LETTERS = new Scene("60 letters", x -> {
        x.rate(0, 1, 10);
        x.pile(3, 5, 4);
        for (int i = 0; i < 60; i++) {
            x.letter(0, 1f, 0);
        }
        x.pay(0);
        x.pay(59);
    });
    /** Letter 0 is paid from all kinds, with all but a stamp of 2. */
    private static final Scene PAID = new Scene("paid", x -> {
        x.rate(0, 1, 155);
        x.letter(0, 1f, 0);
        x.letter(0, 1f, 0);
        x.pile(0, 1, 1);
        x.reel(2);
        x.reel(3);
        x.reel(6);
        x.strip(1);
        x.over(2, 400, 15, 2);
        x.sheet(4, 3, 2, 4, 16);
        x.sheet(9, 2, 2, 3, 17);
        x.lack(4, 1);
        x.lack(9, 0);
        x.pay(0);
    });

    public static void main(String[] args) {
        payTakes();
        payOutside();
        payBusy();
        payNone();
        payJustEnough();
        payTheLeast();
        payFromPairsAndOthersAlike();
        payThePriceOf2000();
        theReelPaysNothing();
        printedOverStampsPayTheNewFace();
        missingRowsPayNothing();
        told();
        toldOutside();
        toldLess();
        given();
        torn();
        tornOfThoseThatGive();
        fewest();
        fewestOutsideAndNone();
        least();
        leastOutsideAndNone();
        leastOfWhatIsTogether();
        day();
        gone();
        goneFromStrips();
        Due.end("EdgeLettersTest");
    }

    /** A counter with a letter 0 of a price. */
    private static Scene toPay(int price, Scene.Story drawer) {
        return new Scene("to pay " + price, x -> {
            for (int k = 0; k <= 3 && price > 1200; k++) {
                x.extra(k, (price - 1200) / 4);
            }
            x.rate(0, 1, Math.min(price, 1200));
            x.letter(0, 1f, price > 1200 ? 15 : 0);
            drawer.on(x);
        });
    }

    // ---- 16: "A letter is paid, its stamps are torn off: what they pay."

    private static void payTakes() {
        RICH.act("16 pay", x -> x.pay(0), 85);
        toPay(2000, Scene::fullDrawer).act("16 of a full drawer", x -> x.pay(0), 2000);
        toPay(1, x -> x.pile(9, 1, 1)).act("16 the least", x -> x.pay(0), 1);
        toPay(1, x -> x.pile(0, 500, 1)).act("16 the least by the greatest face", x -> x.pay(0), 500);
    }

    // ---- 16: "OUTSIDE; BUSY: it is paid; NONE: all that is in the drawer pays less."

    private static void payOutside() {
        for (int letter : Scene.beyond(0, -1)) {
            EMPTY.same("16 there is no letter " + letter, x -> x.pay(letter), OUTSIDE);
        }
        EMPTY.same("16 there is no letter 0", x -> x.pay(0), OUTSIDE);
        for (int letter : Scene.beyond(0, 1)) {
            RICH.same("16 letter " + letter, x -> x.pay(letter), OUTSIDE);
        }
        for (int letter : Scene.beyond(0, 59)) {
            LETTERS.same("16 letter " + letter, x -> x.pay(letter), OUTSIDE);
        }
        PostageCounter x = RICH.made();
        Due.is("16 the new letter is there", x.letter(0, 1f, 0), 2);
        Due.is("16 and can be paid", x.pay(2), 85);
        x.undo();
        x.undo();
        Due.is("16 and is not, when it is taken back", x.pay(2), OUTSIDE);
    }

    private static void payBusy() {
        RICH.same("16 paid", x -> x.pay(1), BUSY);
        LETTERS.same("16 paid, and none is left", x -> x.pay(0), BUSY);
        LETTERS.same("16 paid, and none is left: the last", x -> x.pay(59), BUSY);
        PostageCounter x = LETTERS.made();
        x.undo();
        Due.is("16 not paid when that is taken back", x.pay(59), 10);
        Due.is("16 and paid again", x.pay(59), BUSY);
    }

    private static void payNone() {
        LETTERS.same("16 all places hold no stamps", x -> x.pay(1), NONE);
        toPay(1, x -> { }).same("16 nothing is in the drawer", x -> x.pay(0), NONE);
        toPay(1, x -> {
            x.pile(0, 500, 0);
            x.over(1, 500, 500, 0);
            x.strip(2);
            x.sheet(3, 2, 1, 1, 500);
            x.lack(3, 0);
        }).same("16 no stamp is in the drawer", x -> x.pay(0), NONE);
        PAID.same("16 less is left", x -> x.pay(1), NONE);
    }

    private static void payJustEnough() {
        Scene.Story drawer = x -> {
            x.pile(0, 11, 2);
            x.reel(20);
            x.reel(7);
            x.strip(3);
            x.sheet(5, 2, 2, 2, 13);
            x.sheet(6, 3, 1, 2, 9);
            x.over(9, 500, 31, 1);
        };
        toPay(151, drawer).same("16 one less than the price", x -> x.pay(0), NONE);
        toPay(150, drawer).act("16 just the price", x -> x.pay(0), 150);
        toPay(149, drawer).act("16 one more, for no other does", x -> x.pay(0), 150);
        PostageCounter x = toPay(150, drawer).made();
        x.pay(0);
        int[] due = {2, 0, 0, 2, 0, 4, 2, 0, 0, 1};
        for (int place = 0; place <= 9; place++) {
            Due.is("16 all is given: " + place, x.given(0, place), due[place]);
        }
        Due.is("16 no stamp is left", x.day(5), 0);
        Due.is("16 no face is left", x.day(6), 0);
        Due.is("16 no piece is left", x.day(7), 0);
    }

    /** 3 PAYING: "that CHOICE is taken that pays not less; of all these the one that pays least; of these one of the fewest stamps; .." */
    private static void payTheLeast() {
        given("16 just the price rather than one more by fewer stamps", toPay(40, x -> {
            x.pile(0, 41, 1);
            x.pile(1, 1, 40);
        }), 40, 0, 40);
        given("16 one more when the price can not be met", toPay(40, x -> {
            x.pile(0, 41, 1);
            x.pile(1, 1, 39);
        }), 41, 1, 0);
        given("16 fewest stamps rather than most from place 0", toPay(40, x -> {
            x.pile(0, 10, 4);
            x.pile(1, 20, 1);
        }), 40, 2, 1);
        given("16 as few stamps: most from place 0", toPay(40, x -> {
            x.pile(0, 15, 1);
            x.pile(1, 20, 2);
            x.pile(2, 25, 1);
        }), 40, 1, 0, 1);
        given("16 of these most from place 1", toPay(40, x -> {
            x.pile(2, 20, 2);
            x.pile(8, 15, 1);
            x.pile(9, 25, 1);
        }), 40, 0, 0, 2);
        given("16 to the last place", toPay(40, x -> {
            x.pile(8, 20, 2);
            x.pile(9, 20, 2);
        }), 40, 0, 0, 0, 0, 0, 0, 0, 0, 2, 0);
        given("16 as many as it has at most", toPay(40, x -> {
            x.pile(0, 10, 3);
            x.over(9, 1, 10, 3);
        }), 40, 3, 0, 0, 0, 0, 0, 0, 0, 0, 1);
        given("16 of a strip the last ones", toPay(40, x -> {
            x.reel(40);
            x.reel(1);
            x.strip(0);
            x.pile(1, 39, 1);
        }), 40, 1, 1);
        given("16 of a pair an even number", toPay(40, x -> {
            x.sheet(0, 3, 1, 2, 40);
            x.pile(1, 39, 2);
        }), 78, 0, 2);
        given("16 of a pair an even number, as many as can be", toPay(40, x -> {
            x.sheet(0, 3, 1, 8, 10);
            x.sheet(1, 2, 1, 8, 10);
        }), 40, 4, 0);
        given("16 all from ten places", toPay(10, x -> {
            for (int place = 0; place <= 9; place++) {
                x.pile(place, 1, 1);
            }
        }), 10, 1, 1, 1, 1, 1, 1, 1, 1, 1, 1);
    }

    /** Where a choice with one stamp of a pair, or with what another place has, would do. */
    private static void payFromPairsAndOthersAlike() {
        given("16 not one square of a pair", toPay(10, x -> {
            x.sheet(0, 3, 1, 2, 10);
            x.pile(1, 10, 1);
        }), 10, 0, 1);
        given("16 not three squares of pairs", toPay(30, x -> {
            x.sheet(0, 3, 1, 4, 10);
            x.pile(1, 10, 3);
        }), 30, 2, 1);
        given("16 not one square of a pair, but its two", toPay(10, x -> x.sheet(0, 3, 1, 2, 10)), 20, 2);
        given("16 both squares rather than a stamp too dear", toPay(20, x -> {
            x.pile(0, 21, 1);
            x.sheet(1, 3, 1, 2, 10);
        }), 20, 0, 2);
        given("16 most from place 0, of what the others can end", toPay(30, x -> {
            x.pile(0, 10, 2);
            x.pile(1, 15, 1);
            x.pile(2, 5, 1);
        }), 30, 1, 1, 1);
        given("16 of a strip not more than pays the sum", toPay(30, x -> {
            x.reel(25);
            x.reel(10);
            x.strip(0);
            x.pile(1, 20, 1);
        }), 30, 1, 1);
    }

    private static void given(String what, Scene scene, int sum, int... due) {
        scene.act(what, x -> x.pay(0), sum);
        PostageCounter x = scene.made();
        x.pay(0);
        for (int place = 0; place <= 9; place++) {
            Due.is(what + ": given " + place, x.given(0, place), place < due.length ? due[place] : 0);
        }
    }

    private static void payThePriceOf2000() {
        given("16 the greatest price, by the greatest faces", toPay(2000, x -> {
            for (int place = 0; place <= 9; place++) {
                x.pile(place, 500, 60);
            }
        }), 2000, 4);
        given("16 the greatest price, by small ones", toPay(2000, x -> {
            for (int place = 0; place <= 8; place++) {
                x.pile(place, 4, 60);
            }
        }), 2000, 60, 60, 60, 60, 60, 60, 60, 60, 20);
        given("16 much above the greatest price", toPay(2000, x -> x.sheet(0, 3, 8, 8, 499)), 2994, 6);
    }

    private static void theReelPaysNothing() {
        Scene scene = toPay(10, x -> {
            x.pile(0, 9, 1);
            x.reel(1);
            x.reel(500);
        });
        scene.same("16 the reel is not in the drawer", x -> x.pay(0), NONE);
        scene.same("17 the reel is not in the drawer", x -> x.told(0, 4), 1);
        scene.same("20 the reel is not in the drawer", x -> x.fewest(500), NONE);
        scene.same("21 the reel is not in the drawer", x -> x.least(10), NONE);
        scene.same("22 the reel is not in the drawer: stamps", x -> x.day(5), 1);
        scene.same("22 the reel is not in the drawer: faces", x -> x.day(6), 9);
    }

    private static void printedOverStampsPayTheNewFace() {
        Scene less = toPay(10, x -> x.over(0, 500, 9, 1));
        less.same("16 the old face pays nothing", x -> x.pay(0), NONE);
        less.same("20 the old face pays nothing", x -> x.fewest(500), NONE);
        less.same("22 the old face pays nothing", x -> x.day(6), 9);
        Scene more = toPay(10, x -> x.over(0, 1, 10, 1));
        more.act("16 the new face pays", x -> x.pay(0), 10);
        PostageCounter x = more.made();
        x.pay(0);
        Due.is("23 gone by the new face", x.gone(10), 1);
        Due.is("23 not by the old one", x.gone(1), 0);
    }

    private static void missingRowsPayNothing() {
        Scene block = toPay(20, x -> {
            x.sheet(0, 2, 2, 2, 10);
            x.lack(0, 0);
        });
        block.act("16 the other row pays", x -> x.pay(0), 20);
        PostageCounter x = block.made();
        x.pay(0);
        Due.is("19 its squares", x.torn(0, 0), 2);
        Due.is("19 its squares", x.torn(0, 1), 3);
        toPay(21, y -> {
            y.sheet(0, 2, 2, 2, 10);
            y.lack(0, 0);
        }).same("16 the missing row does not", y -> y.pay(0), NONE);
        toPay(21, y -> {
            y.sheet(0, 3, 2, 2, 10);
            y.lack(0, 1);
        }).same("16 the missing row of a pair does not", y -> y.pay(0), NONE);
    }

    // ---- 17: "what 0 its PRICE, 1 what it was paid with (0: it is not paid), 2 how much more that is .., 3 how many stamps, 4 .., 5 whether it is paid"

    private static void told() {
        int[] unpaid = {85, 0, 0, 0, 0, 0};
        int[] paid = {137, 137, 0, 4, 0, 1};
        int[] more = {1, 500, 499, 1, 0, 1};
        Scene dear = new Scene("paid with more", x -> {
            x.rate(0, 1, 1);
            x.letter(0, 1f, 0);
            x.pile(0, 500, 1);
            x.pay(0);
        });
        for (int what = 0; what <= 5; what++) {
            int it = what;
            RICH.same("17 not paid: " + what, x -> x.told(0, it), unpaid[it]);
            RICH.same("17 paid: " + what, x -> x.told(1, it), paid[it]);
            dear.same("17 paid with more: " + what, x -> x.told(0, it), more[it]);
        }
        PostageCounter x = RICH.made();
        for (int place = 0; place <= 8; place++) {
            x.clear(place);
        }
        x.extra(1, 0);
        for (int what = 0; what <= 5; what++) {
            Due.is("17 as it was paid, whatever comes: " + what, x.told(1, what), paid[what]);
        }
    }

    // ---- 17: "OUTSIDE."

    private static void toldOutside() {
        for (int what = 0; what <= 5; what++) {
            int it = what;
            EMPTY.same("17 there is no letter", x -> x.told(0, it), OUTSIDE);
            for (int letter : Scene.beyond(0, 1)) {
                RICH.same("17 letter " + letter, x -> x.told(letter, it), OUTSIDE);
            }
            for (int letter : Scene.justBeyond(0, 59)) {
                LETTERS.same("17 letter " + letter, x -> x.told(letter, it), OUTSIDE);
            }
            Due.is("17 the last letter", LETTERS.made().told(59, what), new int[] {10, 10, 0, 2, 0, 1}[what]);
        }
        for (int what : Scene.beyond(0, 5)) {
            RICH.same("17 what " + what + ", not paid", x -> x.told(0, what), OUTSIDE);
            RICH.same("17 what " + what + ", paid", x -> x.told(1, what), OUTSIDE);
        }
    }

    /** "4 how much all that is in the drawer now pays less than its PRICE (0: it does not, or the letter is paid)" */
    private static void toldLess() {
        int[][] due = {{0, 50}, {1, 49}, {49, 1}, {50, 0}, {51, 0}, {500, 0}};
        for (int[] one : due) {
            toPay(50, x -> {
                if (one[0] > 0) {
                    x.pile(4, one[0], 1);
                }
            }).same("17 of 50, with " + one[0], x -> x.told(0, 4), one[1]);
        }
        toPay(2000, x -> { }).same("17 the most", x -> x.told(0, 4), 2000);
        PAID.same("17 a paid one's", x -> x.told(0, 4), 0);
        PAID.same("17 one that is not paid now", x -> x.told(1, 4), 155 - 2);
        LETTERS.same("17 a paid one's, and the drawer is empty", x -> x.told(59, 4), 0);
        LETTERS.same("17 one that is not paid, and the drawer is empty", x -> x.told(58, 4), 10);
        PostageCounter x = PAID.made();
        x.pile(3, 153, 1);
        Due.is("17 what is in the drawer now", x.told(1, 4), 0);
        x.clear(3);
        x.pile(3, 152, 1);
        Due.is("17 what is in the drawer now", x.told(1, 4), 1);
    }

    // ---- 18: "How many stamps a letter got from a place (0: it is not paid). OUTSIDE."

    private static void given() {
        for (int place = 0; place <= 9; place++) {
            int here = place;
            PAID.same("18 not paid", x -> x.given(1, here), 0);
            EMPTY.same("18 there is no letter", x -> x.given(0, here), OUTSIDE);
            for (int letter : Scene.justBeyond(0, 1)) {
                PAID.same("18 letter " + letter, x -> x.given(letter, here), OUTSIDE);
            }
        }
        int[] due = {1, 2, 2, 0, 4, 0, 0, 0, 0, 3};
        int stamps = 0;
        for (int place = 0; place <= 9; place++) {
            int here = place;
            stamps += due[place];
            PAID.same("18 from place " + place, x -> x.given(0, here), due[here]);
            PostageCounter x = PAID.made();
            x.clear(place);
            Due.is("18 and when that is cleared", x.given(0, place), due[place]);
        }
        PAID.same("17 of all places", x -> x.told(0, 3), stamps);
        for (int place : PLACES_BEYOND) {
            PAID.same("18 place " + place, x -> x.given(0, place), OUTSIDE);
            PAID.same("18 place " + place + ", not paid", x -> x.given(1, place), OUTSIDE);
        }
        for (int letter : Scene.beyond(0, 59)) {
            LETTERS.same("18 letter " + letter, x -> x.given(letter, 3), OUTSIDE);
        }
        LETTERS.same("18 the last letter", x -> x.given(59, 3), 2);
    }

    // ---- 19: "Square i, from 0, of those that were torn off for a letter, by places, then by numbers: 100 times the place, and the square. OUTSIDE: letter; NONE: there is none such."

    private static void torn() {
        int[] due = {400, 401, 402, 403, 903, 904, 905};
        for (int i = 0; i < due.length; i++) {
            int it = i;
            PAID.same("19 square " + i, x -> x.torn(0, it), due[it]);
            PAID.same("19 not paid", x -> x.torn(1, it), NONE);
            LETTERS.same("19 none is of a sheet", x -> x.torn(0, it), NONE);
            EMPTY.same("19 there is no letter", x -> x.torn(0, it), OUTSIDE);
        }
        for (int i : Scene.beyond(0, due.length - 1)) {
            PAID.same("19 there is no square " + i, x -> x.torn(0, i), NONE);
            PAID.same("19 not paid", x -> x.torn(1, i), NONE);
            PAID.same("19 letter before none", x -> x.torn(2, i), OUTSIDE);
            LETTERS.same("19 none is of a sheet", x -> x.torn(59, i), NONE);
        }
        for (int letter : Scene.beyond(0, 1)) {
            PAID.same("19 letter " + letter, x -> x.torn(letter, 0), OUTSIDE);
            PAID.same("19 letter " + letter, x -> x.torn(letter, -1), OUTSIDE);
        }
        for (int letter : Scene.justBeyond(0, 59)) {
            LETTERS.same("19 letter " + letter, x -> x.torn(letter, 0), OUTSIDE);
        }
        PostageCounter x = toPay(1280, y -> {
            y.sheet(0, 2, 8, 8, 10);
            y.sheet(9, 3, 8, 8, 10);
        }).made();
        x.pay(0);
        for (int i = 0; i < 128; i++) {
            Due.is("19 all squares", x.torn(0, i), i < 64 ? i : 900 + i - 64);
        }
        Due.is("19 no more", x.torn(0, 128), NONE);
    }

    /** Of sheets of which none is given none is torn off, wherever they are. */
    private static void tornOfThoseThatGive() {
        Scene pileAlone = toPay(10, x -> {
            x.sheet(0, 2, 1, 2, 11);
            x.pile(1, 10, 1);
            x.sheet(2, 3, 1, 2, 11);
            x.pay(0);
        });
        pileAlone.same("19 none", x -> x.torn(0, 0), NONE);
        pileAlone.same("22 the sheets are whole", x -> x.day(5), 4);
        Scene oneOfFour = toPay(31, x -> {
            x.sheet(0, 2, 1, 2, 7);
            x.sheet(1, 3, 1, 2, 8);
            x.sheet(2, 2, 2, 3, 31);
            x.sheet(3, 3, 2, 2, 9);
            x.pay(0);
        });
        oneOfFour.same("19 of the one that gives", x -> x.torn(0, 0), 200);
        oneOfFour.same("19 no more", x -> x.torn(0, 1), NONE);
        Scene two = toPay(49, x -> {
            x.sheet(0, 2, 1, 2, 7);
            x.sheet(1, 3, 1, 2, 9);
            x.sheet(2, 2, 2, 3, 31);
            x.sheet(3, 3, 2, 2, 6);
            x.pay(0);
        });
        int[] due = {100, 101, 200, NONE};
        for (int i = 0; i < due.length; i++) {
            int it = i;
            two.same("19 square " + i + " of two sheets that give", x -> x.torn(0, it), due[it]);
        }
    }

    // ---- 20: "The fewest stamps by which a CHOICE pays just a sum, of what is in the drawer now."

    private static void fewest() {
        Scene scene = new Scene("to count", x -> {
            x.pile(0, 7, 3);
            x.reel(100);
            x.reel(1);
            x.reel(50);
            x.strip(1);
            x.sheet(2, 3, 1, 4, 40);
            x.sheet(3, 2, 1, 2, 300);
            x.over(4, 2, 20, 2);
        });
        int[][] due = {
            {0, 0}, {1, NONE}, {6, NONE}, {7, 1}, {8, NONE}, {20, 1}, {21, 3}, {28, NONE}, {40, 2}, {50, 1}, {51, 2}, {52, NONE},
            {80, 2}, {100, 3}, {120, 4}, {151, 3}, {160, 4}, {200, 6}, {300, 1}, {320, 2}, {600, 2}, {972, 14}, {971, NONE}, {973, NONE}
        };
        for (int[] one : due) {
            scene.same("20 sum " + one[0], x -> x.fewest(one[0]), one[1]);
        }
        FULL_DRAWER.same("20 the greatest sum", x -> x.fewest(2500), 5);
        FULL_DRAWER.same("20 just below it", x -> x.fewest(2499), NONE);
        new Scene("small ones", x -> {
            for (int place = 0; place <= 9; place++) {
                x.pile(place, 5, 60);
            }
        }).same("20 the greatest sum by small ones", x -> x.fewest(2500), 500);
        PostageCounter x = scene.made();
        x.clear(3);
        Due.is("20 what is in the drawer now", x.fewest(300), NONE);
    }

    // ---- 20: "OUTSIDE: the sum is not 0 .. 2500; NONE: no CHOICE does."

    private static void fewestOutsideAndNone() {
        for (int sum : Scene.beyond(0, 2500)) {
            EMPTY.same("20 sum " + sum, x -> x.fewest(sum), OUTSIDE);
            FULL_DRAWER.same("20 sum " + sum, x -> x.fewest(sum), OUTSIDE);
        }
        EMPTY.same("20 the greatest sum", x -> x.fewest(2500), NONE);
        EMPTY.same("20 the least sum", x -> x.fewest(0), 0);
        FULL_DRAWER.same("20 the least sum", x -> x.fewest(0), 0);
        FULL_DRAWER.same("20 none", x -> x.fewest(1), NONE);
        Scene just = new Scene("2500", x -> x.sheet(0, 2, 1, 5, 500));
        just.same("20 just all", x -> x.fewest(2500), 5);
        Scene nearly = new Scene("2499", x -> {
            x.sheet(0, 2, 1, 4, 500);
            x.pile(1, 499, 1);
        });
        nearly.same("20 just all", x -> x.fewest(2499), 5);
        nearly.same("20 above all", x -> x.fewest(2500), NONE);
    }

    // ---- 21: "The least sum, not below a price, that a CHOICE pays."

    private static void least() {
        Scene scene = new Scene("to pay by", x -> {
            x.pile(0, 7, 3);
            x.reel(100);
            x.reel(1);
            x.reel(50);
            x.strip(1);
            x.sheet(2, 3, 1, 4, 40);
        });
        int[][] due = {
            {0, 0}, {1, 7}, {7, 7}, {8, 14}, {15, 21}, {22, 50}, {50, 50}, {51, 51}, {52, 57}, {80, 80}, {81, 87}, {102, 130},
            {151, 151}, {152, 152}, {153, 158}, {326, 332}, {331, 332}, {332, 332}, {333, NONE}, {2000, NONE}
        };
        for (int[] one : due) {
            scene.same("21 price " + one[0], x -> x.least(one[0]), one[1]);
        }
    }

    // ---- 21: "OUTSIDE: the price is not 0 .. 2000; NONE: there is none."

    private static void leastOutsideAndNone() {
        for (int price : Scene.beyond(0, 2000)) {
            EMPTY.same("21 price " + price, x -> x.least(price), OUTSIDE);
            FULL_DRAWER.same("21 price " + price, x -> x.least(price), OUTSIDE);
        }
        EMPTY.same("21 nothing pays the least", x -> x.least(0), 0);
        FULL_DRAWER.same("21 nothing pays the least", x -> x.least(0), 0);
        EMPTY.same("21 none", x -> x.least(1), NONE);
        EMPTY.same("21 none for the greatest", x -> x.least(2000), NONE);
        FULL_DRAWER.same("21 the greatest", x -> x.least(2000), 2000);
        FULL_DRAWER.same("21 nearly the greatest", x -> x.least(1999), 2000);
        Scene nearly = new Scene("1999", x -> {
            x.sheet(0, 2, 1, 3, 500);
            x.pile(1, 499, 1);
        });
        nearly.same("21 all", x -> x.least(1999), 1999);
        nearly.same("21 above all", x -> x.least(2000), NONE);
    }

    /** The sums that are farthest above a price. */
    private static void leastOfWhatIsTogether() {
        Scene pairs = new Scene("pairs", x -> x.sheet(9, 3, 1, 6, 500));
        pairs.same("21 a pair", x -> x.least(1), 1000);
        pairs.same("21 a pair", x -> x.least(1000), 1000);
        pairs.same("21 two pairs", x -> x.least(1001), 2000);
        pairs.same("21 two pairs", x -> x.least(2000), 2000);
        new Scene("pairs of 499", x -> x.sheet(9, 3, 1, 6, 499)).same("21 three pairs", x -> x.least(1997), 2994);
        new Scene("blocks of 500", x -> x.sheet(9, 2, 1, 6, 500)).same("21 one square", x -> x.least(1501), 2000);
        Scene strip = new Scene("strip", x -> {
            x.reel(500);
            x.reel(500);
            x.reel(500);
            x.reel(499);
            x.strip(0);
        });
        strip.same("21 the whole strip", x -> x.least(1500), 1999);
        strip.same("21 its end", x -> x.least(1), 499);
        strip.same("21 more than the strip", x -> x.least(2000), NONE);
    }

    // ---- 22: "Of all: what 0 letters, .. 9 acts that can be undone. OUTSIDE."

    private static void day() {
        int[] rich = {2, 1, 137, 137, 4, 26, 905, 4, 2, 20};
        int[] paid = {2, 1, 155, 155, 12, 1, 2, 0, 0, 11};
        int[] letters = {60, 2, 20, 20, 4, 0, 0, 0, 0, 32};
        int[] full = {0, 0, 0, 0, 0, 600, 300000, 5, 0, 10};
        for (int what = 0; what <= 9; what++) {
            int it = what;
            RICH.same("22 what " + what, x -> x.day(it), rich[it]);
            PAID.same("22 what " + what + " of all kinds", x -> x.day(it), paid[it]);
            LETTERS.same("22 what " + what + " of 60 letters", x -> x.day(it), letters[it]);
            FULL_DRAWER.same("22 what " + what + " of a full drawer", x -> x.day(it), full[it]);
        }
        for (int what : Scene.beyond(0, 9)) {
            EMPTY.same("22 what " + what, x -> x.day(what), OUTSIDE);
            RICH.same("22 what " + what, x -> x.day(what), OUTSIDE);
        }
        Scene more = new Scene("paid with more", x -> {
            x.rate(0, 1, 30);
            x.letter(0, 1f, 0);
            x.letter(0, 1f, 0);
            x.letter(0, 1f, 0);
            x.pile(0, 17, 4);
            x.sheet(1, 2, 3, 1, 500);
            x.lack(1, 1);
            x.pay(2);
            x.pay(0);
            x.reel(4);
        });
        int[] due = {3, 2, 60, 68, 4, 2, 1000, 2, 1, 9};
        for (int what = 0; what <= 9; what++) {
            int it = what;
            more.same("22 what " + what + " of two that are paid", x -> x.day(it), due[it]);
        }
    }

    // ---- 23: "How many stamps of a FACE letters got. OUTSIDE."

    private static void gone() {
        int[][] due = {{1, 1}, {2, 0}, {3, 1}, {6, 1}, {15, 2}, {16, 4}, {17, 3}, {400, 0}, {500, 0}};
        for (int[] one : due) {
            PAID.same("23 face " + one[0], x -> x.gone(one[0]), one[1]);
        }
        for (int face : Scene.beyond(1, 500)) {
            EMPTY.same("23 face " + face, x -> x.gone(face), OUTSIDE);
            PAID.same("23 face " + face, x -> x.gone(face), OUTSIDE);
        }
        LETTERS.same("23 of all letters", x -> x.gone(5), 4);
        for (int face : new int[] {1, 500}) {
            Scene scene = toPay(1, x -> {
                x.pile(0, face, 1);
                x.pay(0);
            });
            scene.same("23 face " + face, x -> x.gone(face), 1);
        }
        PostageCounter x = PAID.made();
        x.undo();
        Due.is("23 of those that are paid alone", x.gone(17), 0);
        Due.is("23 none of the drawer's", x.gone(1), 0);
    }

    /** Each stamp of a strip is gone but once, by its own FACE. */
    private static void goneFromStrips() {
        Scene twice = new Scene("two letters from a strip", x -> {
            x.rate(0, 1, 30);
            x.rate(0, 2, 41);
            x.letter(0, 1f, 0);
            x.letter(0, 2f, 0);
            for (int face : new int[] {5, 20, 21, 20, 10}) {
                x.reel(face);
            }
            x.strip(6);
            x.pay(0);
            x.pay(1);
        });
        int[][] due = {{5, 0}, {10, 1}, {20, 2}, {21, 1}, {22, 0}};
        for (int[] one : due) {
            twice.same("23 face " + one[0], x -> x.gone(one[0]), one[1]);
        }
        twice.same("10 its last stamp now", x -> x.holding(6, 2), 5);
        Scene shorter = new Scene("a strip behind a longer one", x -> {
            x.rate(0, 1, 3);
            x.letter(0, 1f, 0);
            for (int i = 0; i < 40; i++) {
                x.reel(9);
            }
            x.strip(0);
            x.clear(0);
            x.reel(2);
            x.reel(1);
            x.strip(0);
            x.pay(0);
        });
        shorter.same("23 its first stamp", x -> x.gone(2), 1);
        shorter.same("23 its last stamp", x -> x.gone(1), 1);
        shorter.same("23 none of the longer one", x -> x.gone(9), 0);
        shorter.same("10 none is left", x -> x.holding(0, 1), 0);
    }
}
