import java.lang.management.ManagementFactory;

/** All calls of a run live in one room, as if nothing were ever thrown away. */
public final class RoomTest {
    /** A tenth part of the room's 7.3 million fields and elements, of 4 bytes each at the least. */
    private static final long MOST_BYTES = 730_000L * 4;
    private static final int CALLS = 512;

    public static void main(String[] args) {
        run(false);
        long paying = run(true);
        System.out.println("a run of the dearest calls takes " + paying + " bytes");
        Due.is("room is left", paying <= MOST_BYTES ? 1 : 0, 1);
        Due.end("RoomTest");
    }

    private static long run(boolean again) {
        com.sun.management.ThreadMXBean bean = (com.sun.management.ThreadMXBean) ManagementFactory.getThreadMXBean();
        long before = bean.getThreadAllocatedBytes(Thread.currentThread().getId());
        PostageCounter x = new PostageCounter();
        int calls = 0;
        x.rate(0, 1, 95);
        for (int place = 0; place < 10; place++) {
            x.sheet(place, 2 + place % 2, 8, 8, 9 + place / 2);
            x.lack(place, 3);
            calls += 2;
        }
        for (int i = 0; i < 60; i++) {
            x.letter(0, 1f, 0);
            calls++;
        }
        int wrong = 0;
        for (int letter = 0; calls < CALLS - 4; letter = (letter + 1) % 60) {
            wrong += x.pay(letter) < 95 ? 1 : 0;
            wrong += x.fewest(2500) < 0 ? 1 : 0;
            wrong += x.gone(9) < 0 ? 1 : 0;
            x.undo();
            calls += 4;
        }
        if (again) {
            Due.is("dear calls went wrong", wrong, 0);
        }
        return bean.getThreadAllocatedBytes(Thread.currentThread().getId()) - before;
    }
}
