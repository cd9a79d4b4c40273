import java.util.ArrayList;
import java.util.List;
import java.util.Set;
import java.util.TreeSet;

/**
 * A run of calls on a new counter, made again for each question, so that what a call changes can be seen: all that can be
 * asked is asked of a counter with the call and of one without it, and again after each undo(). No counter gets more
 * calls than the document promises.
 */
final class Scene {
    static final int NONE = -1, OUTSIDE = -3, BUSY = -4, FULL = -5, NOTHING = -11, CAST = -12, INDEX = -13, SIZE = -14;
    static final int LOW = Integer.MIN_VALUE, HIGH = Integer.MAX_VALUE;
    /** Of the 512 calls of a counter the others are for the scene, the call and undo(). */
    private static final int QUESTIONS = 330;

    interface Story {
        void on(PostageCounter x);
    }

    interface Call {
        int on(PostageCounter x);
    }

    /** Of a new counter. */
    static final Scene EMPTY = new Scene("empty", x -> { });
    /** All kinds with stamps (0 to 4), all without (5 to 8), place 9 is free; ways, extras, letters, THE REEL. */
    static final Scene RICH = new Scene("rich", Scene::rich);
    /** All places hold the most that they can. */
    static final Scene FULL_DRAWER = new Scene("full drawer", Scene::fullDrawer);

    private static final List<List<Call>> ALL = parted(allQuestions());
    private static final List<List<Call>> BRIEF = parted(briefQuestions());

    private final String name;
    private final Story story;
    private final int acts;
    /** By how often undo() was called. */
    private final List<int[]> seen = new ArrayList<>();

    Scene(String name, Story story) {
        this.name = name;
        this.story = story;
        this.acts = made().day(9);
    }

    PostageCounter made() {
        PostageCounter x = new PostageCounter();
        story.on(x);
        return x;
    }

    /** The call answers so, and changes nothing: it refuses or finds. */
    void same(String call, Call it, int due) {
        String what = name + ": " + call;
        Due.is(what, it.on(made()), due);
        unchanged(what, it);
    }

    /** The call answers so and is an act, and undo() takes it back. */
    void act(String call, Call it, int due) {
        String what = name + ": " + call;
        PostageCounter x = made();
        Due.is(what, it.on(x), due);
        Due.is(what + ", acts", x.day(9), Math.min(acts + 1, 32));
        Due.is(what + ", undo", x.undo(), Math.min(acts, 31));
        if (acts < 32) {
            unchanged(what + ", undone", y -> {
                it.on(y);
                return y.undo();
            });
        }
    }

    /** Both scenes end alike: all that can be asked is answered alike. */
    void alike(String call, Scene other) {
        for (int undone = 0; undone <= acts; undone++) {
            compared(name + ": " + call, undone, other.asked(undone, x -> 0));
        }
    }

    private void unchanged(String what, Call it) {
        for (int undone = 0; undone <= acts; undone++) {
            compared(what, undone, asked(undone, it));
        }
    }

    private void compared(String what, int undone, int[] got) {
        if (undone == seen.size()) {
            seen.add(asked(undone, x -> 0));
        }
        int[] due = seen.get(undone);
        int differing = 0;
        for (int i = 0; i < due.length; i++) {
            differing += got[i] == due[i] ? 0 : 1;
        }
        Due.is(what + ", what is otherwise behind it (" + undone + " undone)", differing, 0);
    }

    private int[] asked(int undone, Call it) {
        List<Integer> answers = new ArrayList<>();
        for (List<Call> part : undone == 0 ? ALL : BRIEF) {
            PostageCounter x = made();
            it.on(x);
            for (int i = 0; i < undone; i++) {
                answers.add(x.undo());
            }
            for (Call question : part) {
                answers.add(question.on(x));
            }
        }
        int[] row = new int[answers.size()];
        for (int i = 0; i < row.length; i++) {
            row[i] = answers.get(i);
        }
        return row;
    }

    private static List<List<Call>> parted(List<Call> questions) {
        List<List<Call>> parts = new ArrayList<>();
        for (int i = 0; i < questions.size(); i += QUESTIONS) {
            parts.add(questions.subList(i, Math.min(questions.size(), i + QUESTIONS)));
        }
        return parts;
    }

    private static List<Call> allQuestions() {
        List<Call> all = briefQuestions();
        for (int place = 0; place < 10; place++) {
            int here = place;
            for (int a = 0; a < 4; a++) {
                int row = a;
                for (int b = 0; b < 4; b++) {
                    int column = b;
                    all.add(x -> x.look(here, 2, row, column));
                    all.add(x -> x.look(here, 3, row, column));
                }
            }
        }
        for (int way = 0; way < 6; way++) {
            int its = way;
            for (int extras : new int[] {0, 1, 2, 4, 8, 15}) {
                all.add(x -> x.price(its, 1f, extras));
            }
            all.add(x -> x.price(its, 20.5f, 0));
            all.add(x -> x.price(its, 5000f, 0));
        }
        for (int letter = 0; letter < 4; letter++) {
            int it = letter;
            for (int place = 0; place < 10; place++) {
                int here = place;
                all.add(x -> x.given(it, here));
            }
            for (int i = 0; i < 8; i++) {
                int square = i;
                all.add(x -> x.torn(it, square));
            }
        }
        for (int sum : new int[] {1, 11, 23, 45, 93, 104, 500, 2500}) {
            all.add(x -> x.fewest(sum));
            all.add(x -> x.least(Math.min(sum, 2000)));
        }
        for (int face : new int[] {1, 11, 21, 22, 23, 31, 41, 51, 52, 500}) {
            all.add(x -> x.gone(face));
        }
        return all;
    }

    /** The last ones are acts: they tell what else can not be seen, as THE REEL's stamps and how many STEPS there are. */
    private static List<Call> briefQuestions() {
        List<Call> some = new ArrayList<>();
        for (int what = 0; what < 10; what++) {
            int it = what;
            some.add(x -> x.day(it));
        }
        for (int place = 0; place < 10; place++) {
            int here = place;
            for (int what = 0; what < 5; what++) {
                int it = what;
                some.add(x -> x.holding(here, it));
            }
            for (int i = 0; i < 4; i++) {
                int stamp = i;
                some.add(x -> x.look(here, 1, stamp, 0));
            }
            some.add(x -> x.look(here, 4, 0, 0));
        }
        for (int letter : new int[] {0, 1, 2, 59}) {
            for (int what = 0; what < 6; what++) {
                int it = what;
                some.add(x -> x.told(letter, it));
            }
        }
        for (int k = 0; k < 4; k++) {
            int it = k;
            some.add(x -> x.extra(it, 7 + it));
        }
        some.add(x -> x.strip(9));
        for (int i = 0; i < 41; i++) {
            int stamp = i;
            some.add(x -> x.look(9, 1, stamp, 0));
        }
        for (int way = 0; way < 6; way++) {
            int its = way;
            some.add(x -> x.rate(its, 5000, 1200));
        }
        some.add(x -> x.letter(0, 1f, 0));
        some.add(x -> x.pay(0));
        some.add(x -> x.pay(x.day(0) - 1));
        return some;
    }

    static void rich(PostageCounter x) {
        x.rate(0, 20, 85);
        x.rate(0, 50, 102);
        x.rate(5, 1, 1);
        x.extra(1, 35);
        for (int face = 21; face <= 24; face++) {
            x.reel(face);
        }
        x.strip(1);
        x.sheet(2, 2, 4, 3, 31);
        x.sheet(3, 3, 3, 4, 41);
        x.letter(0, 20f, 0);
        x.letter(0, 20.5f, 2);
        x.lack(2, 2);
        // 137 is paid by 24 + 31 + 2 * 41 alone.
        x.pay(1);
        x.lack(3, 1);
        x.pile(0, 11, 3);
        x.over(4, 51, 52, 6);
        x.pile(5, 12, 0);
        x.over(6, 61, 62, 0);
        x.sheet(7, 2, 1, 1, 8);
        x.lack(7, 0);
        x.sheet(8, 3, 1, 2, 7);
        x.lack(8, 0);
        x.reel(9);
        x.reel(10);
    }

    static void fullDrawer(PostageCounter x) {
        for (int place = 0; place < 10; place += 2) {
            x.sheet(place, 2 + place / 2 % 2, 8, 8, 500);
        }
        for (int i = 0; i < 40; i++) {
            x.reel(500);
        }
        x.strip(1);
        x.pile(3, 500, 60);
        x.pile(5, 500, 60);
        x.over(7, 500, 500, 60);
        x.over(9, 500, 500, 60);
    }

    /** Numbers below and above the bounds, near and far, and some that were inside if only their lower bits were kept. */
    static int[] beyond(int least, int most) {
        Set<Integer> some = new TreeSet<>();
        for (long near : new long[] {least - 1L, least - 2L, most + 1L, most + 2L, -least, -most, LOW, LOW + 1L, HIGH, HIGH - 1L}) {
            some.add((int) near);
        }
        for (int bit = 4; bit < 32; bit++) {
            some.add(least + (1 << bit));
            some.add(most + (1 << bit));
            some.add(least - (1 << bit));
            some.add(most - (1 << bit));
        }
        some.removeIf(number -> number >= least && number <= most);
        int[] row = new int[some.size()];
        int i = 0;
        for (int number : some) {
            row[i++] = number;
        }
        return row;
    }

    /** The nearest of these: for scenes that are dear. */
    static int[] justBeyond(int least, int most) {
        return new int[] {least - 1, most + 1, LOW, HIGH};
    }
}
