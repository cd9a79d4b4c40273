/** Promises 16 to 23, and PAYING but for what is torn off. */
public final class LettersTest {
    private static final int NONE = -1, OUTSIDE = -3, BUSY = -4;

    public static void main(String[] args) {
        refusals();
        leastSumFirst();
        fewestStampsNext();
        mostFromTheFirstPlaces();
        stripFromItsEnd();
        pairsTogether();
        greatest();
        told();
        givenAndTorn();
        fewestAndLeast();
        day();
        gone();
        Due.end("LettersTest");
    }

    /** A counter with a letter 0 of a price. */
    private static PostageCounter toPay(int price) {
        PostageCounter x = new PostageCounter();
        x.rate(0, 1, price);
        x.letter(0, 1f, 0);
        return x;
    }

    private static void given(PostageCounter x, String what, int... due) {
        for (int place = 0; place < 10; place++) {
            Due.is(what + " given " + place, x.given(0, place), place < due.length ? due[place] : 0);
        }
    }

    private static void refusals() {
        PostageCounter x = toPay(50);
        Due.is("16 letter -1", x.pay(-1), OUTSIDE);
        Due.is("16 letter 1", x.pay(1), OUTSIDE);
        Due.is("16 none", x.pay(0), NONE);
        x.pile(0, 49, 1);
        Due.is("16 less", x.pay(0), NONE);
        Due.is("16 refused ones change nothing", x.day(9), 3);
        x.pile(1, 1, 1);
        Due.is("16 just all", x.pay(0), 50);
        Due.is("16 busy", x.pay(0), BUSY);
        Due.is("16 the drawer is without them", x.day(5), 0);
        Due.is("16 the places hold still", x.holding(0, 2), 49);
        Due.is("16 acts", x.day(9), 5);
    }

    private static void leastSumFirst() {
        PostageCounter x = toPay(60);
        x.pile(0, 61, 1);
        x.pile(1, 7, 9);
        x.pile(2, 4, 1);
        Due.is("16 many small ones that pay just the price", x.pay(0), 60);
        given(x, "16 least sum", 0, 8, 1);
    }

    private static void fewestStampsNext() {
        PostageCounter x = toPay(60);
        x.pile(0, 10, 6);
        x.pile(1, 20, 3);
        x.pile(2, 30, 1);
        Due.is("16 sum", x.pay(0), 60);
        given(x, "16 fewest stamps", 1, 1, 1);
    }

    private static void mostFromTheFirstPlaces() {
        PostageCounter x = toPay(13);
        x.pile(0, 4, 3);
        x.pile(1, 5, 2);
        x.pile(2, 3, 4);
        Due.is("16 sum", x.pay(0), 13);
        given(x, "16 most from place 0", 2, 1, 0);
        PostageCounter y = toPay(30);
        for (int place = 0; place < 4; place++) {
            y.pile(place, 10, 2);
        }
        Due.is("16 sum", y.pay(0), 30);
        given(y, "16 most from place 0, then 1", 2, 1);
        PostageCounter z = toPay(12);
        z.pile(0, 6, 1);
        z.pile(1, 5, 1);
        z.pile(2, 7, 1);
        z.pile(3, 6, 1);
        Due.is("16 sum", z.pay(0), 12);
        given(z, "16 place 0 before the others", 1, 0, 0, 1);
    }

    private static void stripFromItsEnd() {
        PostageCounter x = toPay(5);
        x.reel(5);
        x.reel(2);
        x.reel(1);
        x.strip(3);
        Due.is("16 what lies behind the 5 must go too", x.pay(0), 8);
        given(x, "16 strip", 0, 0, 0, 3);
        PostageCounter y = toPay(3);
        y.reel(5);
        y.reel(2);
        y.reel(1);
        y.strip(3);
        Due.is("16 the end", y.pay(0), 3);
        Due.is("16 rest", y.holding(3, 1), 1);
        Due.is("16 its last", y.holding(3, 2), 5);
        Due.is("16 its first", y.look(3, 1, 0, 0), 5);
        Due.is("16 no stamp behind it", y.look(3, 1, 1, 0), -13);
    }

    private static void pairsTogether() {
        PostageCounter x = toPay(10);
        x.sheet(0, 3, 2, 2, 10);
        Due.is("16 a pair pays twice", x.pay(0), 20);
        given(x, "16 pair", 2);
        PostageCounter y = toPay(30);
        y.sheet(0, 3, 2, 2, 10);
        y.pile(1, 10, 4);
        Due.is("16 pair and one", y.pay(0), 30);
        given(y, "16 pair and one", 2, 1);
    }

    private static void greatest() {
        PostageCounter x = new PostageCounter();
        x.rate(0, 1, 1200);
        for (int k = 0; k < 4; k++) {
            x.extra(k, 200);
        }
        x.letter(0, 1f, 15);
        Due.is("16 greatest price", x.told(0, 0), 2000);
        x.sheet(9, 3, 1, 4, 500);
        Due.is("16 greatest price is paid", x.pay(0), 2000);
        PostageCounter y = new PostageCounter();
        y.sheet(0, 3, 1, 4, 500);
        y.pile(1, 1, 1);
        Due.is("21 just the one stamp more", y.least(1001), 1001);
        y.clear(1);
        Due.is("21 nearly a pair more", y.least(1001), 2000);
        PostageCounter z = new PostageCounter();
        z.sheet(0, 3, 1, 4, 499);
        z.sheet(1, 3, 1, 2, 500);
        Due.is("21 nearly 3000", z.least(1999), 2996);
        Due.is("21 two pairs", z.least(1997), 1998);
        PostageCounter a = new PostageCounter();
        a.reel(500);
        a.reel(499);
        a.reel(499);
        a.reel(500);
        a.reel(1);
        a.strip(0);
        Due.is("21 of a strip", a.least(1500), 1999);
        Due.is("21 its end", a.least(502), 1000);
    }

    private static void told() {
        PostageCounter x = toPay(50);
        x.pile(0, 30, 1);
        int[] unpaid = {50, 0, 0, 0, 20, 0};
        for (int what = 0; what <= 5; what++) {
            Due.is("17 unpaid " + what, x.told(0, what), unpaid[what]);
        }
        x.pile(1, 20, 1);
        Due.is("17 just enough", x.told(0, 4), 0);
        x.clear(1);
        x.pile(1, 28, 2);
        Due.is("17 more than enough", x.told(0, 4), 0);
        Due.is("17 pays", x.pay(0), 56);
        int[] paid = {50, 56, 6, 2, 0, 1};
        for (int what = 0; what <= 5; what++) {
            Due.is("17 paid " + what, x.told(0, what), paid[what]);
        }
        Due.is("17 what -1", x.told(0, -1), OUTSIDE);
        Due.is("17 what 6", x.told(0, 6), OUTSIDE);
        Due.is("17 letter -1", x.told(-1, 0), OUTSIDE);
        Due.is("17 letter 1", x.told(1, 0), OUTSIDE);
    }

    private static void givenAndTorn() {
        PostageCounter x = toPay(100);
        x.sheet(7, 2, 1, 3, 10);
        x.sheet(2, 3, 2, 4, 9);
        Due.is("18 not paid", x.given(0, 7), 0);
        Due.is("19 not paid", x.torn(0, 0), NONE);
        x.pile(5, 1, 8);
        Due.is("18 pays", x.pay(0), 100);
        given(x, "18", 0, 0, 8, 0, 0, 8, 0, 2);
        x.clear(2);
        Due.is("18 is as it was then", x.given(0, 2), 8);
        Due.is("18 letter -1", x.given(-1, 0), OUTSIDE);
        Due.is("18 letter 1", x.given(1, 0), OUTSIDE);
        Due.is("18 place -1", x.given(0, -1), OUTSIDE);
        Due.is("18 place 10", x.given(0, 10), OUTSIDE);
        PostageCounter y = toPay(66);
        y.sheet(3, 3, 2, 4, 5);
        y.sheet(9, 2, 2, 2, 7);
        y.pile(0, 4, 1);
        y.reel(9);
        y.strip(1);
        Due.is("19 pays", y.pay(0), 67);
        given(y, "19", 0, 1, 0, 6, 0, 0, 0, 0, 0, 4);
        int[] due = {302, 303, 304, 305, 306, 307, 900, 901, 902, 903};
        for (int i = 0; i < due.length; i++) {
            Due.is("19 square " + i, y.torn(0, i), due[i]);
        }
        Due.is("19 no more", y.torn(0, due.length), NONE);
        Due.is("19 i -1", y.torn(0, -1), NONE);
        Due.is("19 i high", y.torn(0, Integer.MAX_VALUE), NONE);
        Due.is("19 letter -1", y.torn(-1, 0), OUTSIDE);
        Due.is("19 letter 1", y.torn(1, 0), OUTSIDE);
        y.clear(9);
        Due.is("19 is as it was then", y.torn(0, 9), 903);
    }

    private static void fewestAndLeast() {
        PostageCounter x = new PostageCounter();
        Due.is("20 nothing for nothing", x.fewest(0), 0);
        Due.is("20 none", x.fewest(1), NONE);
        Due.is("20 sum -1", x.fewest(-1), OUTSIDE);
        Due.is("20 sum 2501", x.fewest(2501), OUTSIDE);
        Due.is("20 sum 2500", x.fewest(2500), NONE);
        Due.is("21 nothing", x.least(0), 0);
        Due.is("21 none", x.least(1), NONE);
        Due.is("21 price -1", x.least(-1), OUTSIDE);
        Due.is("21 price 2001", x.least(2001), OUTSIDE);
        Due.is("21 price 2000", x.least(2000), NONE);
        x.pile(0, 7, 3);
        x.pile(1, 3, 60);
        Due.is("20 of two", x.fewest(21), 3);
        Due.is("20 of both", x.fewest(27), 5);
        Due.is("20 all", x.fewest(201), 63);
        Due.is("20 above all", x.fewest(202), NONE);
        Due.is("20 below the least", x.fewest(2), NONE);
        Due.is("20 between", x.fewest(11), NONE);
        Due.is("21 from there", x.least(11), 12);
        Due.is("21 just all", x.least(201), 201);
        Due.is("21 above all", x.least(202), NONE);
        Due.is("21 between the greatest", x.least(197), 198);
        x.pile(2, 500, 5);
        Due.is("20 greatest sum", x.fewest(2500), 5);
        Due.is("20 asking changes nothing", x.day(9), 3);
    }

    private static void day() {
        PostageCounter x = toPay(50);
        x.letter(0, 1f, 0);
        x.letter(0, 1f, 0);
        x.pile(0, 30, 3);
        x.sheet(1, 2, 3, 2, 4);
        x.lack(1, 1);
        x.sheet(2, 3, 1, 2, 3);
        x.reel(1);
        x.reel(1);
        int[] before = {3, 0, 0, 0, 0, 9, 112, 3, 2, 8};
        for (int what = 0; what <= 9; what++) {
            Due.is("22 before " + what, x.day(what), before[what]);
        }
        // 30 + 4 * 4 + 2 * 3 pay 52; then 60 are paid by two of 30.
        Due.is("22 first", x.pay(1), 52);
        Due.is("22 second", x.pay(0), 60);
        int[] after = {3, 2, 100, 112, 9, 0, 0, 0, 2, 10};
        for (int what = 0; what <= 9; what++) {
            Due.is("22 after " + what, x.day(what), after[what]);
        }
        x.sheet(3, 2, 2, 2, 7);
        x.lack(3, 0);
        Due.is("22 stamps again", x.day(5), 2);
        Due.is("22 their faces", x.day(6), 14);
        Due.is("22 a piece", x.day(7), 1);
        Due.is("22 what -1", x.day(-1), OUTSIDE);
        Due.is("22 what 10", x.day(10), OUTSIDE);
    }

    private static void gone() {
        PostageCounter x = toPay(64);
        x.letter(0, 1f, 0);
        x.pile(0, 10, 1);
        x.over(1, 11, 12, 1);
        x.reel(10);
        x.reel(13);
        x.reel(10);
        x.strip(2);
        x.sheet(3, 2, 1, 1, 10);
        Due.is("23 before", x.gone(10), 0);
        x.clear(0);
        x.pile(0, 9, 1);
        Due.is("23 all", x.pay(0), 64);
        Due.is("23 10", x.gone(10), 3);
        Due.is("23 9", x.gone(9), 1);
        Due.is("23 old face", x.gone(11), 0);
        Due.is("23 face printed over", x.gone(12), 1);
        Due.is("23 13", x.gone(13), 1);
        for (int place = 0; place < 4; place++) {
            x.clear(place);
        }
        x.pile(5, 32, 2);
        x.pay(1);
        Due.is("23 of all letters", x.gone(32), 2);
        Due.is("23 cleared places do not matter", x.gone(10), 3);
        Due.is("23 face 0", x.gone(0), OUTSIDE);
        Due.is("23 face 501", x.gone(501), OUTSIDE);
        Due.is("23 face 500", x.gone(500), 0);
        PostageCounter z = toPay(30);
        z.pile(0, 10, 9);
        z.over(1, 9, 20, 9);
        Due.is("23 some of both", z.pay(0), 30);
        Due.is("23 pile", z.gone(10), 1);
        Due.is("23 over", z.gone(20), 1);
        Due.is("23 its old face is as it was", z.look(1, 4, 0, 0), 9);
        Due.is("23 its kind too", z.holding(1, 0), 4);
        PostageCounter y = toPay(3);
        y.reel(3);
        y.reel(1);
        y.reel(2);
        y.strip(0);
        y.pay(0);
        Due.is("23 of a strip its end alone", y.gone(3), 0);
        Due.is("23 of its end", y.gone(1) + y.gone(2), 2);
    }
}
