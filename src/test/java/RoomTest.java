import java.lang.management.ManagementFactory;

/** What the calls of a run make must fit one room: asking makes nothing new. */
public final class RoomTest {
    private static final Check CHECK = new Check("RoomTest");

    private RoomTest() { }

    public static void main(String[] args) {
        com.sun.management.ThreadMXBean threads = (com.sun.management.ThreadMXBean) ManagementFactory.getThreadMXBean();
        long self = Thread.currentThread().getId();
        askAll(make());
        long ahead = threads.getThreadAllocatedBytes(self);
        ShakingCourt x = make();
        long made = threads.getThreadAllocatedBytes(self);
        askAll(x);
        long asked = threads.getThreadAllocatedBytes(self);
        System.out.println("RoomTest: a court takes " + (made - ahead) + " bytes, 512 calls " + (asked - made));
        CHECK.due("a court is small", made - ahead < 60000, true);
        CHECK.due("calls make next to nothing", asked - made < 60000, true);
        CHECK.end();
    }

    private static ShakingCourt make() {
        ShakingCourt x = new ShakingCourt();
        Check.tellCourt(x, "cells 12; courtier a maid at 3 loyal 4; courtier b spoon at 9 loyal 1; fades wave * warm < 9;");
        return x;
    }

    private static void askAll(ShakingCourt x) {
        for (int i = 0; i < 16; i++) {
            x.feed(0x6265617420202020L, 0x203b203b, 0);
            x.reign();
            x.touch(i % 12, 20);
            x.breathe(1);
            x.turn();
            x.change(0, 1);
            x.beat();
            x.undo();
            x.judged(2);
            x.later(3, 60);
            x.still();
            x.peak(2);
            x.total(0, 60);
            x.nudge(i % 12, 12, 30, 0);
            x.guard(0);
            x.swap();
            x.feel(2, 12, 3);
            x.ways(0);
            x.look(12);
            x.share(0, 9);
            x.alike();
            x.reach(1, 7);
            x.calmest(60);
            x.post(1);
            x.rises(4);
            x.chance(5, 6, 5);
            x.rests(1, 2, 3, -1);
            x.years(7, 99, 0);
            x.mark(0, i % 2 == 0);
            x.fork(i);
            x.count(4);
        }
    }
}
