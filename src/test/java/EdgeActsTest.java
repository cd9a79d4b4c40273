/** ACTS, ANSWERS and promise 24, sentence by sentence where one names an edge. */
public final class EdgeActsTest {
    private static final int NONE = Scene.NONE, OUTSIDE = Scene.OUTSIDE, BUSY = Scene.BUSY, FULL = Scene.FULL;
    private static final int NOTHING = Scene.NOTHING, CAST = Scene.CAST, INDEX = Scene.INDEX, SIZE = Scene.SIZE;

    private static final Scene EMPTY = Scene.EMPTY, RICH = Scene.RICH;
    /** 32 acts are kept, and there were no others. */
    private static final Scene ACTS_32 = new Scene("32 acts", EdgeActsTest::acts32);
    /** 31 acts are kept. */
    private static final Scene ACTS_31 = new Scene("31 acts", x -> {
        acts32(x);
        x.undo();
    });
    /** 32 acts are kept, of 40. */
    private static final Scene ACTS_40 = new Scene("40 acts", EdgeActsTest::acts40);
    /** The eleven calls that are acts, with what they answer in the scenes of many acts. */
    private static final Scene.Call[] ACTS = {
        x -> x.pile(8, 5, 7), x -> x.over(8, 5, 6, 8), x -> x.strip(8), x -> x.sheet(8, 2, 3, 3, 9), x -> x.sheet(8, 3, 2, 2, 9),
        x -> x.lack(2, 1), x -> x.clear(0), x -> x.rate(0, 80, 300), x -> x.extra(1, 6), x -> x.letter(0, 20f, 0), x -> x.pay(2)
    };
    private static final int[] ANSWERS = {7, 8, 0, 9, 4, 3, 1, 3, 35, 3, 85};

    public static void main(String[] args) {
        eachActIsKeptAndTakenBack();
        whatIsNoAct();
        theLatest32();
        theOldestStays();
        undoOnceMore();
        undoNone();
        undoOfWhatIsNew();
        theReelIsNotTakenBack();
        refusalsWith32();
        findingsWith32();
        the512thCall();
        Due.end("EdgeActsTest");
    }

    /** The rich scene, in which a third letter is not paid, and more acts. */
    private static void acts32(PostageCounter x) {
        Scene.rich(x);
        x.strip(9);
        x.clear(9);
        x.clear(8);
        x.letter(0, 20f, 0);
        for (int act = 25; act <= 32; act++) {
            x.extra(3, act);
        }
    }

    private static void acts40(PostageCounter x) {
        acts32(x);
        for (int i = 1; i <= 8; i++) {
            x.extra(3, 100 + i);
        }
    }

    // ---- 4 ACTS: "the calls of pile, over, strip, sheet, lack, clear, rate, extra, letter, pay that are not refused and find nothing"

    private static void eachActIsKeptAndTakenBack() {
        Scene lastUndone = new Scene("40 acts, one more taken back", x -> {
            acts40(x);
            x.extra(0, 1);
            x.undo();
        });
        for (int i = 0; i < ACTS.length; i++) {
            Scene.Call act = ACTS[i];
            ACTS_31.act("24 act " + i, act, ANSWERS[i]);
            ACTS_32.act("24 act " + i, act, ANSWERS[i]);
            ACTS_40.act("24 act " + i, act, ANSWERS[i]);
            lastUndone.act("24 act " + i, act, ANSWERS[i]);
            lastUndone.alike("24 act " + i, new Scene("40 acts, and act " + i + " taken back", x -> {
                acts40(x);
                act.on(x);
                x.undo();
            }));
        }
        RICH.act("24 pile", x -> x.pile(9, 1, 0), 0);
        RICH.act("24 over", x -> x.over(9, 1, 1, 0), 0);
        RICH.act("24 sheet", x -> x.sheet(9, 2, 1, 1, 1), 1);
        RICH.act("24 lack", x -> x.lack(3, 0), 2);
        RICH.act("24 clear", x -> x.clear(2), 1);
        RICH.act("24 rate", x -> x.rate(0, 51, 103), 3);
        RICH.act("24 extra", x -> x.extra(1, 35), 35);
        RICH.act("24 letter", x -> x.letter(0, 20f, 15), 2);
        RICH.act("24 pay", x -> x.pay(0), 85);
        EMPTY.act("24 strip", x -> x.strip(9), 0);
    }

    private static void whatIsNoAct() {
        PostageCounter x = RICH.made();
        x.reel(1);
        Due.is("4 ACTS: reel is none", x.day(9), 20);
        Due.is("24 it takes back the act before", x.undo(), 19);
        Due.is("24 undo is none", x.undo(), 18);
        Due.is("22 acts that can be undone", x.day(9), 18);
    }

    // ---- 4 ACTS: "The latest 32 are kept."

    private static void theLatest32() {
        for (int acts : new int[] {1, 2, 31, 32, 33, 34, 63, 64, 65, 96, 200}) {
            PostageCounter x = new PostageCounter();
            for (int i = 1; i <= acts; i++) {
                Due.is("24 extra", x.extra(2, i), i - 1);
                Due.is("22 acts that can be undone", x.day(9), Math.min(i, 32));
            }
            int kept = Math.min(acts, 32);
            for (int left = kept - 1; left >= 0; left--) {
                Due.is("24 how many are kept still", x.undo(), left);
            }
            Due.is("24 none is kept", x.undo(), NONE);
            Due.is("24 those before the latest 32 stay", x.extra(2, 0), acts - kept);
        }
    }

    private static void theOldestStays() {
        PostageCounter x = new PostageCounter();
        x.pile(0, 5, 5);
        x.pile(1, 6, 6);
        for (int i = 1; i <= 31; i++) {
            x.extra(0, i);
        }
        for (int i = 0; i < 32; i++) {
            x.undo();
        }
        Due.is("24 the 33rd from the end stays", x.holding(0, 1), 5);
        Due.is("24 the 32nd is taken back", x.holding(1, 1), NOTHING);
        Due.is("24 none is kept", x.undo(), NONE);
        Due.is("24 it stays still", x.holding(0, 1), 5);
    }

    // ---- 24: "The latest act that is kept is taken back: how many are kept still."

    private static void undoOnceMore() {
        PostageCounter x = ACTS_40.made();
        for (int round = 0; round < 40; round++) {
            Due.is("24 all 32 but one", x.undo(), 31);
            x.extra(3, round);
            Due.is("24 an act again", x.day(9), 32);
        }
        for (int left = 31; left >= 0; left--) {
            Due.is("24 one by one", x.undo(), left);
        }
        Due.is("24 none is kept", x.undo(), NONE);
        Due.is("24 the first eight are not taken back", x.told(0, 0), 85);
        Due.is("24 nor what they put in the drawer", x.holding(1, 1), 4);
        PostageCounter y = new PostageCounter();
        y.pile(0, 1, 1);
        y.pile(1, 1, 1);
        y.undo();
        y.pile(2, 1, 1);
        Due.is("24 the latest", y.undo(), 1);
        Due.is("24 is that of place 2", y.holding(2, 1), NOTHING);
        Due.is("24 what was taken back does not come again", y.holding(1, 1), NOTHING);
        Due.is("24 the one before", y.undo(), 0);
        Due.is("24 is that of place 0", y.holding(0, 1), NOTHING);
    }

    // ---- 24: "NONE: none is kept."

    private static void undoNone() {
        EMPTY.same("24 none", PostageCounter::undo, NONE);
        new Scene("a reel", x -> {
            x.reel(3);
            x.reel(4);
        }).same("24 none, with a reel", PostageCounter::undo, NONE);
        new Scene("an act taken back", x -> {
            x.pile(0, 1, 1);
            x.undo();
        }).same("24 none any more", PostageCounter::undo, NONE);
        Scene.Story allUndone = x -> {
            acts40(x);
            for (int i = 0; i < 32; i++) {
                x.undo();
            }
        };
        new Scene("32 of 40 acts taken back", allUndone).same("24 none any more", PostageCounter::undo, NONE);
        EMPTY.alike("24 all is as it was before", new Scene("all taken back", x -> {
            x.rate(0, 1, 10);
            x.extra(0, 5);
            x.pile(0, 3, 3);
            x.over(1, 3, 3, 3);
            x.strip(2);
            x.sheet(3, 3, 2, 2, 4);
            x.lack(3, 0);
            x.letter(0, 1f, 1);
            x.pay(0);
            x.clear(0);
            for (int i = 0; i < 10; i++) {
                x.undo();
            }
        }));
    }

    private static void undoOfWhatIsNew() {
        PostageCounter x = ACTS_31.made();
        x.letter(0, 1f, 0);
        x.undo();
        Due.is("24 the letter is not there", x.told(3, 0), OUTSIDE);
        Due.is("24 its number is free", x.letter(0, 50f, 0), 3);
        Due.is("24 for another price", x.told(3, 0), 102);
        x.undo();
        x.rate(0, 80, 300);
        x.undo();
        Due.is("24 the step is not there", x.price(0, 51f, 0), NONE);
        Due.is("24 lesser ones are above the step before again", x.rate(0, 51, 103), 3);
        x.undo();
        Due.is("24 the place is free", x.sheet(8, 3, 1, 2, 1), 2);
        x.undo();
        Due.is("24 and free again", x.pile(8, 1, 1), 1);
        x.undo();
        x.pay(2);
        Due.is("24 paid", x.pay(2), BUSY);
        x.undo();
        Due.is("24 not paid", x.told(2, 5), 0);
        Due.is("24 nothing is given", x.given(2, 2), 0);
        Due.is("24 nothing is torn", x.torn(2, 0), NONE);
        Due.is("24 it can be paid again", x.pay(2), 85);
    }

    // ---- 24: "all is as it was before it, but for THE REEL"

    private static void theReelIsNotTakenBack() {
        PostageCounter x = new PostageCounter();
        x.reel(5);
        x.reel(6);
        x.strip(0);
        Due.is("24 strip is taken back", x.undo(), 0);
        Due.is("24 the place holds nothing", x.holding(0, 0), NOTHING);
        Due.is("24 the reel stays empty", x.day(8), 0);
        x.pile(1, 1, 1);
        x.reel(7);
        x.undo();
        Due.is("24 what came behind the reel stays", x.day(8), 1);
        x.strip(0);
        Due.is("24 and is that face", x.look(0, 1, 0, 0), 7);
        x.reel(8);
        x.reel(9);
        x.undo();
        Due.is("24 what came later stays", x.day(8), 2);
        Due.is("24 a strip of it", x.strip(0), 2);
        Due.is("24 its first", x.look(0, 1, 0, 0), 8);
        Due.is("24 its last", x.look(0, 1, 1, 0), 9);
        x.clear(0);
        x.reel(10);
        x.undo();
        Due.is("24 a cleared strip is back", x.look(0, 1, 1, 0), 9);
        Due.is("24 and the reel as it was", x.day(8), 1);
        PostageCounter y = new PostageCounter();
        for (int i = 1; i <= 40; i++) {
            y.reel(i);
        }
        y.strip(0);
        y.undo();
        for (int i = 1; i <= 40; i++) {
            Due.is("24 there is room on it", y.reel(i), i);
        }
        Due.is("24 till it is full", y.reel(1), FULL);
        y.pile(0, 1, 1);
        y.undo();
        Due.is("24 and stays full", y.reel(1), FULL);
    }

    // ---- ANSWERS: "These refuse; of several the first in the order in which the call tells them. .. What refuses or finds changes nothing."

    private static void refusalsWith32() {
        for (Scene scene : new Scene[] {ACTS_31, ACTS_32, ACTS_40}) {
            scene.same("2 outside", x -> x.pile(8, 0, 1), OUTSIDE);
            scene.same("2 busy", x -> x.pile(0, 1, 1), BUSY);
            scene.same("3 outside", x -> x.over(8, 0, 1, 1), OUTSIDE);
            scene.same("3 busy", x -> x.over(0, 1, 1, 1), BUSY);
            scene.same("4 outside", x -> x.reel(501), OUTSIDE);
            scene.same("5 outside", x -> x.strip(10), OUTSIDE);
            scene.same("5 busy", x -> x.strip(1), BUSY);
            scene.same("6 outside", x -> x.sheet(8, 4, 1, 1, 1), OUTSIDE);
            scene.same("6 busy", x -> x.sheet(0, 2, 1, 1, 1), BUSY);
            scene.same("6 size", x -> x.sheet(8, 2, -1, 1, 1), SIZE);
            scene.same("6 outside at last", x -> x.sheet(8, 3, 1, 1, 1), OUTSIDE);
            scene.same("7 outside", x -> x.lack(10, 0), OUTSIDE);
            scene.same("7 nothing", x -> x.lack(8, 0), NOTHING);
            scene.same("7 cast", x -> x.lack(0, 0), CAST);
            scene.same("7 index", x -> x.lack(2, 4), INDEX);
            scene.same("7 missing", x -> x.lack(2, 2), NOTHING);
            scene.same("8 outside", x -> x.clear(10), OUTSIDE);
            scene.same("8 nothing", x -> x.clear(8), NOTHING);
            scene.same("11 outside", x -> x.rate(0, 50, 300), OUTSIDE);
            scene.same("12 outside", x -> x.extra(0, 201), OUTSIDE);
            scene.same("15 outside", x -> x.letter(0, -1f, 0), OUTSIDE);
            scene.same("15 none", x -> x.letter(0, 51f, 0), NONE);
            scene.same("16 outside", x -> x.pay(3), OUTSIDE);
            scene.same("16 busy", x -> x.pay(1), BUSY);
        }
    }

    private static void findingsWith32() {
        for (Scene scene : new Scene[] {RICH, ACTS_32}) {
            scene.same("9 finds", x -> x.look(2, 2, 0, 0), 0);
            scene.same("9 finds", x -> x.look(1, 1, 0, 0), 21);
            scene.same("9 finds", x -> x.look(3, 3, 0, 1), 82);
            scene.same("10 finds", x -> x.holding(3, 4), 2);
            scene.same("13 finds", x -> x.grams(20.5f), 21);
            scene.same("14 finds", x -> x.price(0, 20.5f, 2), 137);
            scene.same("17 finds", x -> x.told(1, 3), 4);
            scene.same("18 finds", x -> x.given(1, 3), 2);
            scene.same("19 finds", x -> x.torn(1, 2), 301);
            scene.same("20 finds", x -> x.fewest(85), 3);
            scene.same("20 finds the greatest", x -> x.fewest(2500), NONE);
            scene.same("21 finds", x -> x.least(84), 84);
            scene.same("21 finds the greatest", x -> x.least(2000), NONE);
            scene.same("22 finds", x -> x.day(6), 905);
            scene.same("23 finds", x -> x.gone(41), 2);
        }
    }

    // ---- "An object is used for at most 512 calls after it has been made"

    private static void the512thCall() {
        PostageCounter x = new PostageCounter();
        x.rate(0, 1, 5);
        x.letter(0, 1f, 0);
        x.pile(0, 5, 60);
        int calls = 3;
        for (; calls < 509; calls += 2) {
            Due.is("call " + (calls + 1), x.pay(0), 5);
            Due.is("call " + (calls + 2), x.undo(), 3);
        }
        Due.is("call 510", x.pay(0), 5);
        Due.is("call 511", x.day(5), 59);
        Due.is("call 512", x.undo(), 3);
        Due.is("calls", calls, 509);
        PostageCounter y = new PostageCounter();
        for (int i = 1; i <= 511; i++) {
            y.extra(0, i % 201);
        }
        Due.is("call 512", y.undo(), 31);
    }
}
