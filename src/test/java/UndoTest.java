/** ACTS, promise 24, and what else tells of acts. */
public final class UndoTest {
    private static final int NONE = -1, NOTHING = -11, OUTSIDE = -3;

    public static void main(String[] args) {
        eachAct();
        payments();
        theReelStays();
        theLatest32();
        whatIsNoAct();
        Due.end("UndoTest");
    }

    private static void eachAct() {
        PostageCounter x = new PostageCounter();
        Due.is("24 none", x.undo(), NONE);
        x.pile(0, 1, 1);
        Due.is("24 pile", x.undo(), 0);
        Due.is("24 pile is gone", x.holding(0, 0), NOTHING);
        x.over(0, 1, 2, 1);
        Due.is("24 over", x.undo(), 0);
        Due.is("24 over is gone", x.holding(0, 0), NOTHING);
        x.sheet(0, 2, 3, 3, 5);
        x.lack(0, 1);
        Due.is("24 lack", x.undo(), 1);
        Due.is("24 the row is back", x.look(0, 2, 1, 2), 5);
        Due.is("24 its pieces", x.holding(0, 4), 1);
        Due.is("24 it can lack again", x.lack(0, 1), 3);
        x.clear(0);
        Due.is("24 clear", x.undo(), 2);
        Due.is("24 it holds it again", x.holding(0, 1), 6);
        Due.is("24 its missing row too", x.look(0, 2, 1, 0), NOTHING);
        x.undo();
        Due.is("24 sheet", x.undo(), 0);
        Due.is("24 sheet is gone", x.holding(0, 0), NOTHING);
        x.rate(3, 10, 20);
        x.rate(3, 20, 30);
        Due.is("24 rate", x.undo(), 1);
        Due.is("24 step is gone", x.price(3, 11f, 0), NONE);
        Due.is("24 the other is not", x.price(3, 10f, 0), 20);
        Due.is("24 another step", x.rate(3, 11, 21), 2);
        x.extra(2, 9);
        x.extra(2, 8);
        Due.is("24 extra", x.undo(), 3);
        Due.is("24 what it cost", x.extra(2, 7), 9);
        x.letter(3, 1f, 0);
        x.letter(3, 1f, 4);
        Due.is("24 letter", x.undo(), 5);
        Due.is("24 letter is gone", x.told(1, 0), OUTSIDE);
        Due.is("24 its number is free", x.letter(3, 11f, 0), 1);
        Due.is("24 another price", x.told(1, 0), 21);
        for (int kept = 5; kept >= 0; kept--) {
            Due.is("24 all the way", x.undo(), kept);
        }
        Due.is("24 no more", x.undo(), NONE);
        Due.is("24 no letter", x.day(0), 0);
        Due.is("24 no step", x.price(3, 1f, 0), NONE);
        Due.is("24 no cost", x.extra(2, 0), 0);
    }

    private static void payments() {
        PostageCounter x = new PostageCounter();
        x.rate(0, 1, 47);
        x.letter(0, 1f, 0);
        x.letter(0, 1f, 0);
        x.sheet(0, 2, 2, 2, 10);
        x.sheet(1, 3, 2, 2, 6);
        x.reel(3);
        x.reel(2);
        x.strip(2);
        x.over(3, 4, 1, 9);
        int[] before = day(x);
        int first = x.pay(1);
        Due.is("24 pays", first, 47);
        int[] between = day(x);
        int second = x.pay(0);
        Due.is("24 second can not be paid", second, NONE);
        x.pile(9, 47, 1);
        Due.is("24 second", x.pay(0), 47);
        Due.is("24 a letter is paid", x.told(0, 5), 1);
        Due.is("24 undo it", x.undo(), 9);
        Due.is("24 it is not paid", x.told(0, 5), 0);
        Due.is("24 nothing is given", x.given(0, 9), 0);
        Due.is("24 nothing is torn", x.torn(0, 0), NONE);
        Due.is("24 nothing is gone", x.gone(47), 0);
        Due.is("24 the other is paid", x.told(1, 5), 1);
        x.undo();
        same("24 between", day(x), between);
        x.undo();
        same("24 before", day(x), before);
        Due.is("24 square", x.look(0, 2, 0, 0), 10);
        Due.is("24 pair", x.look(1, 3, 0, 0), 12);
        Due.is("24 stamp", x.look(2, 1, 1, 0), 2);
        Due.is("24 it can be paid again", x.pay(1), 47);
        same("24 as before", day(x), between);
    }

    private static int[] day(PostageCounter x) {
        int[] day = new int[10];
        for (int what = 0; what < 10; what++) {
            day[what] = x.day(what);
        }
        return day;
    }

    private static void same(String what, int[] got, int[] want) {
        for (int i = 0; i < want.length; i++) {
            Due.is(what + " day " + i, got[i], want[i]);
        }
    }

    private static void theReelStays() {
        PostageCounter x = new PostageCounter();
        x.reel(5);
        x.reel(6);
        Due.is("24 reel is no act", x.undo(), NONE);
        x.strip(0);
        x.reel(7);
        Due.is("24 strip", x.undo(), 0);
        Due.is("24 place is empty", x.holding(0, 0), NOTHING);
        Due.is("24 the reel is as it was", x.day(8), 1);
        Due.is("24 its stamp", x.strip(0), 1);
        Due.is("24 the later one", x.look(0, 1, 0, 0), 7);
        x.undo();
        Due.is("24 the reel stays empty", x.day(8), 0);
        x.reel(8);
        x.pile(0, 1, 1);
        x.reel(9);
        x.undo();
        Due.is("24 two", x.strip(0), 2);
    }

    private static void theLatest32() {
        PostageCounter x = new PostageCounter();
        for (int i = 1; i <= 40; i++) {
            x.extra(0, i);
            Due.is("24 kept", x.day(9), Math.min(i, 32));
        }
        for (int kept = 31; kept >= 0; kept--) {
            Due.is("24 undo", x.undo(), kept);
            Due.is("24 kept still", x.day(9), kept);
        }
        Due.is("24 no more", x.undo(), NONE);
        Due.is("24 the latest 32 were taken back", x.extra(0, 0), 8);
        Due.is("24 that one too", x.undo(), 0);
        Due.is("24 as it was", x.extra(0, 0), 8);
    }

    private static void whatIsNoAct() {
        PostageCounter x = new PostageCounter();
        x.pile(0, 5, 5);
        x.rate(0, 5, 5);
        x.letter(0, 1f, 0);
        x.pay(0);
        Due.is("4 acts", x.day(9), 4);
        x.pile(0, 5, 5);
        x.over(0, 5, 5, 5);
        x.sheet(0, 2, 2, 2, 2);
        x.sheet(1, 2, -2, 2, 2);
        x.strip(0);
        x.reel(5);
        x.lack(0, 0);
        x.lack(1, 0);
        x.clear(1);
        x.rate(0, 5, 5);
        x.extra(0, 201);
        x.letter(0, 6f, 0);
        x.pay(0);
        x.look(0, 0, 0, 0);
        x.holding(0, 0);
        x.grams(1f);
        x.price(0, 1f, 0);
        x.told(0, 0);
        x.given(0, 0);
        x.torn(0, 0);
        x.fewest(10);
        x.least(10);
        x.gone(5);
        Due.is("no acts", x.day(9), 4);
        x.strip(1);
        Due.is("a strip is one", x.day(9), 5);
        x.pile(2, 1, 0);
        Due.is("a pile of none is one", x.day(9), 6);
    }
}
