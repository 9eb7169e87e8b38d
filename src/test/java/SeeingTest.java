import java.util.NoSuchElementException;

/** Promises 15 to 40: what would be, what is felt, and what is seen. */
public final class SeeingTest {
    private static final Check CHECK = new Check("SeeingTest");

    private SeeingTest() { }

    public static void main(String[] args) {
        promises15To17();
        promise18();
        promise19();
        promise20();
        promise21();
        promises22To24();
        promise23States();
        promise25();
        promises26To30();
        promise31();
        promise32();
        promise33();
        promise34();
        promise35();
        promise36And37();
        promise38();
        promise39();
        promise40();
        nothingChanges();
        CHECK.end();
    }

    private static void promises15To17() {
        // 8 0 0 0, 0 4 0 4, 4 0 4 0, and so on for good.
        ShakingCourt x = CHECK.courtOf("cells 4; fades 0;");
        CHECK.due("all still", x.still(), 0);
        CHECK.due("peak of stillness", x.peak(3), 0);
        x.touch(0, 8);
        CHECK.due("later 0", x.later(0, 0), 8);
        CHECK.due("later 1", x.later(1, 1), 4);
        CHECK.due("later 2", x.later(2, 2), 4);
        CHECK.due("later 59", x.later(3, 59), 4);
        CHECK.due("later 60", x.later(3, 60), 0);
        CHECK.due("later below", x.later(3, -1), -1);
        CHECK.due("later beyond", x.later(3, 61), -1);
        CHECK.due("later of none", x.later(4, 1), -1);
        CHECK.due("later of one below", x.later(-1, 1), -1);
        CHECK.due("never still", x.still(), -1);
        CHECK.due("peak 0", x.peak(0), 0);
        CHECK.due("peak 1", x.peak(1), 1);
        CHECK.due("peak 2", x.peak(2), 2);
        CHECK.due("peak below", x.peak(-1), -1);
        CHECK.due("peak beyond", x.peak(4), -1);
        x.fork(1);
        CHECK.due("later of a cracked one", x.later(1, 1), -1);
        CHECK.due("peak of a cracked one", x.peak(1), -1);

        // It fades in the last beat that still asks for, or in the one behind it.
        ShakingCourt y = CHECK.courtOf("cells 4; fades 59 < time + 1;");
        y.touch(0, 2);
        CHECK.due("still by 60", y.still(), 60);
        ShakingCourt z = CHECK.courtOf("cells 4; fades 59 < time;");
        z.touch(0, 2);
        CHECK.due("not by 60", z.still(), -1);
        z.beat();
        CHECK.due("a beat on", z.still(), 60);
    }

    private static void promise18() {
        ShakingCourt x = CHECK.courtOf("cells 4; fades 0; courtier p plain at 0 loyal 1; courtier m maid at 1 loyal 1;");
        x.touch(0, 8);
        CHECK.due("one", x.total(0, 1), 0);
        CHECK.due("maid one", x.total(1, 1), 5);
        CHECK.due("60", x.total(0, 60), 120);
        CHECK.due("maid 60", x.total(1, 60), 150);
        x.beat();
        CHECK.due("only what comes", x.total(1, 2), 5);
        CHECK.due("no beats", x.total(0, 0), -1);
        CHECK.due("too many", x.total(0, 61), -1);
        CHECK.due("below", x.total(-1, 1), -1);
        CHECK.due("beyond", x.total(2, 1), -1);
    }

    private static void promise19() {
        ShakingCourt x = CHECK.courtOf("cells 5; fades 0;");
        CHECK.due("by one beat", x.nudge(2, 1, 5, 0), 10);
        CHECK.due("the first one", x.nudge(2, 1, 5, 1), 1);
        CHECK.due("the most", x.nudge(2, 1, 10, 0), 20);
        CHECK.due("more", x.nudge(2, 1, 11, 0), -1);
        CHECK.due("now", x.nudge(2, 0, 20, 0), 20);
        CHECK.due("now there", x.nudge(2, 0, 20, 1), 2);
        CHECK.due("now more", x.nudge(2, 0, 21, 1), -1);
        x.touch(3, 7);
        CHECK.due("what shakes helps", x.nudge(2, 1, 5, 0), 3);
        CHECK.due("the first of these", x.nudge(2, 1, 5, 1), 1);
        CHECK.due("enough without", x.nudge(3, 0, 7, 0), 1);
        CHECK.due("any, then", x.nudge(3, 0, 7, 1), 0);
        x.fork(1);
        CHECK.due("not by a cracked one", x.nudge(2, 1, 5, 1), 3);
        CHECK.due("of a cracked one", x.nudge(1, 0, 1, 0), -1);
        CHECK.due("of none", x.nudge(5, 0, 1, 0), -1);
        CHECK.due("of one below", x.nudge(-1, 0, 1, 0), -1);
        CHECK.due("beats below", x.nudge(3, -1, 1, 0), -1);
        CHECK.due("beats beyond", x.nudge(3, 13, 1, 0), -1);
        CHECK.due("shake below", x.nudge(3, 0, 0, 0), -1);
        CHECK.due("shake beyond", x.nudge(3, 0, 100, 0), -1);
        CHECK.due("what below", x.nudge(3, 0, 1, -1), -1);
        CHECK.due("what beyond", x.nudge(3, 0, 1, 2), -1);
        ShakingCourt y = CHECK.courtOf("cells 4; fades 0;");
        CHECK.due("by 12 beats", y.nudge(0, 12, 1, 0), 2);
        CHECK.due("by 12 beats, where", y.nudge(0, 12, 10, 1), 0);
    }

    private static void promise20() {
        ShakingCourt x = CHECK.courtOf("cells 5; fades 0; courtier a plain at 2 loyal 0; courtier b plain at 3 loyal 0;");
        CHECK.due("nothing shakes", x.guard(0), 0);
        x.touch(3, 20);
        // Where it shakes no more, nothing ever comes; his own cell is the first by which he has nothing.
        CHECK.due("his own", x.guard(0), 2);
        CHECK.due("what shakes", x.guard(1), 3);
        CHECK.due("below", x.guard(-1), -1);
        CHECK.due("beyond", x.guard(2), -1);
        x.fork(2);
        CHECK.due("the first of the rest", x.guard(0), 0);
        x.fork(0);
        CHECK.due("not a cracked one", x.guard(0), 1);
        x.fork(1);
        x.fork(3);
        x.fork(4);
        CHECK.due("all are cracked", x.guard(0), -1);
    }

    private static void promise21() {
        // One beat leaves 1 in cells 1 and 5, the next one nothing.
        String law = "cells 6; fades 9; reads wave * 10;";
        ShakingCourt x = CHECK.courtOf(law + "courtier a plain at 3 loyal 0; courtier b maid at 4 loyal 0; courtier c plain at 1 loyal 0;");
        CHECK.due("nothing shakes", x.swap(), -1);
        x.touch(0, 20);
        CHECK.due("the maid to where it shakes", x.swap(), 8 + 2);
        x.change(1, 2);
        CHECK.due("none is better", x.swap(), -1);
        ShakingCourt y = CHECK.courtOf(law + "courtier a plain at 1 loyal 0; courtier b maid at 3 loyal 0; courtier c maid at 4 loyal 0;");
        y.touch(0, 20);
        CHECK.due("the first of equal ones", y.swap(), 1);
        ShakingCourt z = CHECK.courtOf(law + "courtier a plain at 1 loyal 0; courtier b maid at 3 loyal 0; courtier c spoon at 4 loyal 0;");
        z.touch(0, 20);
        // The spoon at 4 already has 5 behind his cell.
        CHECK.due("of two", z.swap(), 1);
        CHECK.due("alone", CHECK.courtOf("courtier a plain at 1 loyal 0;").swap(), -1);
        CHECK.due("nobody", new ShakingCourt().swap(), -1);
    }

    private static void promises22To24() {
        ShakingCourt x = CHECK.courtOf("cells 5; fades 0;");
        CHECK.due("all ways", x.ways(0), 100);
        CHECK.due("all cells", x.ways(1), 31);
        CHECK.due("least", x.ways(2), 1);
        CHECK.due("greatest", x.ways(3), 20);
        CHECK.due("what below", x.ways(-1), -1);
        CHECK.due("what beyond", x.ways(4), -1);
        CHECK.due("felt", x.feel(2, 1, 5), true);
        CHECK.due("ways", x.ways(0), 4);
        CHECK.due("cells", x.ways(1), 2 + 8);
        CHECK.due("least of them", x.ways(2), 10);
        CHECK.due("greatest of them", x.ways(3), 11);
        CHECK.due("look now", x.look(0), 1);
        CHECK.due("look a beat on", x.look(1), 0);
        CHECK.due("look below", x.look(-1), -1);
        CHECK.due("look beyond", x.look(13), -1);
        CHECK.due("felt, too", x.feel(0, 1, 5), true);
        CHECK.due("fewer", x.ways(0), 2);
        CHECK.due("look for these", x.look(0), 1);
        CHECK.due("none parts them a beat on", x.look(1), -1);
        CHECK.due("one more", x.feel(1, 0, 10), true);
        CHECK.due("one way", x.ways(0), 1);
        CHECK.due("none parts one", x.look(0), -1);
        CHECK.due("against it", x.feel(4, 12, 99), true);
        CHECK.due("none", x.ways(0), 0);
        CHECK.due("no cells", x.ways(1), 0);
        CHECK.due("no least", x.ways(2), -1);
        CHECK.due("no greatest", x.ways(3), -1);
        CHECK.due("none to part", x.look(0), -1);
    }

    private static void promise23States() {
        ShakingCourt x = CHECK.courtOf("cells 5; fades 0;");
        CHECK.due("below", x.feel(-1, 0, 0), false);
        CHECK.due("beyond", x.feel(5, 0, 0), false);
        CHECK.due("beats below", x.feel(0, -1, 0), false);
        CHECK.due("beats beyond", x.feel(0, 13, 0), false);
        CHECK.due("shake below", x.feel(0, 0, -1), false);
        CHECK.due("shake beyond", x.feel(0, 0, 100), false);
        CHECK.due("nothing felt", x.count(9), 0);
        x.fork(1);
        CHECK.due("a cracked one", x.feel(1, 0, 0), false);
        CHECK.due("no way by it", x.ways(0), 80);
        CHECK.due("cells but it", x.ways(1), 29);
        for (int i = 0; i < 8; i++) {
            CHECK.due("felt " + i, x.feel(0, 0, 0), true);
        }
        CHECK.due("a ninth", x.feel(0, 0, 0), false);
        CHECK.due("eight", x.count(9), 8);
        CHECK.due("not the first", x.ways(1), 28);
        x.touch(0, 1);
        CHECK.due("what is touched is as it is now", x.ways(0), 0);

        // Forces 1 and 20 count, and the first cell: 99 less what it shakes parts them as told.
        ShakingCourt y = CHECK.courtOf("cells 3; fades 0;");
        for (int i = 0; i < 12; i++) {
            y.touch(i % 3, 20);
        }
        y.touch(0, 19);
        // Any touch of cell 0 leaves it at 99: 20 ways shake alike there, and 40 more do now.
        CHECK.due("all ways", y.ways(0), 60);
        CHECK.due("cells 1 and 2 part them", y.look(0), 1);
        y.feel(1, 0, 80);
        y.feel(2, 0, 80);
        CHECK.due("twenty alike", y.ways(0), 20);
        CHECK.due("none parts them", y.look(0), -1);
    }

    private static void promise25() {
        ShakingCourt x = CHECK.courtOf("courtier a plain at 0 loyal 3; courtier b maid at 0 loyal 5;"
            + "courtier c plain at 0 loyal 0; courtier d plain at 0 loyal 1;");
        shares(x, 10, 4, 5, 0, 1);
        shares(x, 9, 3, 5, 0, 1);
        shares(x, 1, 1, 0, 0, 0);
        shares(x, 8, 3, 5, 0, 0);
        shares(x, 99, 33, 55, 0, 11);
        shares(x, 7, 3, 4, 0, 0);
        CHECK.due("nothing", x.share(0, 0), -1);
        CHECK.due("too much", x.share(0, 100), -1);
        CHECK.due("below", x.share(-1, 1), -1);
        CHECK.due("beyond", x.share(4, 1), -1);
        ShakingCourt y = CHECK.courtOf("courtier a plain at 0 loyal 0; courtier b maid at 0 loyal 0; courtier c maid at 0 loyal 0;");
        shares(y, 8, 3, 3, 2);
        shares(y, 1, 1, 0, 0);
        shares(y, 99, 33, 33, 33);
        shares(CHECK.courtOf("courtier a plain at 0 loyal 0;"), 7, 7);
        shares(CHECK.courtOf("courtier a plain at 0 loyal 0; courtier b plain at 0 loyal 1;"), 7, 0, 7);
    }

    private static void shares(ShakingCourt x, int much, int... want) {
        for (int i = 0; i < want.length; i++) {
            CHECK.due("share " + i + " of " + much, x.share(i, much), want[i]);
        }
    }

    private static void promises26To30() {
        ShakingCourt x = CHECK.courtOf("cells 6;");
        see(x, 15, true, 6, -1, 0);
        x.touch(0, 5);
        see(x, 10, false, 5, 0, 5);
        x.touch(5, 5);
        see(x, 6 + 1, true, 4, 0, 5);
        x.touch(2, 9);
        see(x, 3 + 1, false, 2, 2, 9);
        x.fork(2);
        see(x, 6 + 1, false, 4, 0, 5);
        x.fork(3);
        see(x, 6 + 1, true, 4, 0, 5);
        x.fork(1);
        x.fork(4);
        see(x, 6 + 1, true, 4, 0, 0);
        x.touch(5, 9);
        see(x, 6, false, 4, 5, 9);
        x.fork(0);
        see(x, 10, false, 5, 5, 0);
        x.fork(5);
        see(x, 15, true, 6, -1, 0);

        // A calm across the ring's seam.
        ShakingCourt y = CHECK.courtOf("cells 6;");
        y.touch(2, 1);
        y.touch(3, 1);
        CHECK.due("calm over the seam", y.calm(), 4);
        CHECK.due("loud by 1", y.loud(), 2);
        for (int i = 0; i < 6; i++) {
            y.touch(i, 1);
        }
        CHECK.due("no calm", y.calm(), 0);
        CHECK.due("spread without a still one", y.spread(), 1);
    }

    private static void see(ShakingCourt x, int alike, boolean even, int calm, int loud, int spread) {
        String at = " at " + x.count(10);
        CHECK.due("alike" + at, x.alike(), alike);
        CHECK.due("even" + at, x.even(), even);
        CHECK.due("calm" + at, x.calm(), calm);
        CHECK.due("loud" + at, x.loud(), loud);
        CHECK.due("spread" + at, x.spread(), spread);
    }

    private static void promise31() {
        ShakingCourt x = CHECK.courtOf("cells 8; fades 0;");
        CHECK.due("itself", x.reach(3, 3), 0);
        CHECK.due("beside", x.reach(0, 7), 1);
        CHECK.due("three off", x.reach(0, 3), 3);
        CHECK.due("four off", x.reach(0, 4), 4);
        CHECK.due("below", x.reach(-1, 0), -1);
        CHECK.due("beyond", x.reach(8, 0), -1);
        CHECK.due("other below", x.reach(0, -1), -1);
        CHECK.due("other beyond", x.reach(0, 8), -1);
        x.fork(1);
        CHECK.due("a cracked one", x.reach(1, 0), -1);
        CHECK.due("by a cracked one", x.reach(0, 1), -1);
        x.fork(7);
        CHECK.due("walled off", x.reach(2, 0), -1);
        ShakingCourt w = CHECK.courtOf("cells 5; fades 0;");
        w.fork(1);
        CHECK.due("the other way round", w.reach(2, 0), 3);
        ShakingCourt y = CHECK.courtOf("cells 3; fades 99;");
        CHECK.due("it fades", y.reach(0, 1), -1);
        for (int i = 0; i < 5; i++) {
            y.touch(0, 20);
        }
        CHECK.due("99 can't be more", y.reach(0, 0), -1);
        // Nothing is other till the laws of the last beat that counts, or of the one behind it.
        ShakingCourt z = CHECK.courtOf("cells 3; fades (time < 20) * 99;");
        CHECK.due("all fades at once", z.reach(0, 1), -1);
        CHECK.due("but the touched one", z.reach(1, 1), 0);
    }

    private static void promise32() {
        ShakingCourt x = CHECK.courtOf("cells 5;");
        for (int i = 0; i < 5; i++) {
            x.touch(i, i + 1);
        }
        x.fork(1);
        CHECK.due("one", x.arc(3, 1), 4);
        CHECK.due("over the seam", x.arc(3, 4), 4 + 5 + 1);
        CHECK.due("all", x.arc(2, 5), 13);
        CHECK.due("from a cracked one", x.arc(1, 2), 3);
        CHECK.due("none", x.arc(0, 0), -1);
        CHECK.due("more than there are", x.arc(0, 6), -1);
        CHECK.due("below", x.arc(-1, 1), -1);
        CHECK.due("beyond", x.arc(5, 1), -1);
        ShakingCourt y = CHECK.courtOf("cells 12;");
        y.touch(11, 3);
        CHECK.due("twelve", y.arc(5, 12), 3);
        CHECK.due("thirteen", y.arc(5, 13), -1);
    }

    private static void promise33() {
        ShakingCourt x = CHECK.courtOf("cells 4; fades 0;");
        x.touch(0, 8);
        CHECK.due("now", x.calmest(0), 1);
        CHECK.due("odd", x.calmest(59), 0);
        CHECK.due("even", x.calmest(60), 1);
        CHECK.due("below", x.calmest(-1), -1);
        CHECK.due("beyond", x.calmest(61), -1);
        x.fork(1);
        CHECK.due("not a cracked one", x.calmest(0), 2);
        x.fork(2);
        x.fork(3);
        CHECK.due("the only one", x.calmest(0), 0);
        x.fork(0);
        CHECK.due("all are cracked", x.calmest(0), -1);
    }

    private static void promise34() {
        ShakingCourt x = CHECK.courtOf("cells 4; fades 0; courtier p plain at 0 loyal 0; courtier q plain at 1 loyal 0;"
            + "courtier s spoon at 0 loyal 0; courtier c child at 1 loyal 0;");
        CHECK.due("all", x.lazy(), 15);
        x.touch(0, 8);
        CHECK.due("some", x.lazy(), 1);
        x.touch(2, 20);
        x.touch(2, 20);
        CHECK.due("a child that is afraid", x.lazy(), 1 + 8);
        x.beat();
        CHECK.due("in the beat to come", x.lazy(), 2 + 8);
        CHECK.due("nobody", new ShakingCourt().lazy(), 0);
    }

    private static void promise35() {
        ShakingCourt x = CHECK.courtOf("cells 6; fades 9; reads wave * 10; courtier a plain at 3 loyal 0; courtier s spoon at 3 loyal 0;");
        CHECK.due("nothing shakes", x.post(0), 0);
        x.touch(0, 20);
        CHECK.due("where it shakes", x.post(0), 1);
        CHECK.due("a spoon ahead of it", x.post(1), 0);
        x.fork(1);
        CHECK.due("the other one", x.post(0), 5);
        CHECK.due("he stays", x.courtier(0, 1), 3);
        CHECK.due("below", x.post(-1), -1);
        CHECK.due("beyond", x.post(2), -1);
        ShakingCourt y = CHECK.courtOf("reads not wave; courtier a plain at 3 loyal 0;");
        y.touch(1, 20);
        y.fork(4);
        CHECK.due("a cracked one is a cell, too", y.post(0), 4);
    }

    private static void promise36And37() {
        ShakingCourt x = CHECK.courtOf("cells 4; fades 0;");
        CHECK.due("hush of nothing", x.hush(), 0);
        x.touch(0, 3);
        CHECK.due("three", x.hush(), 1);
        x.touch(1, 1);
        CHECK.due("and one", x.hush(), 2);
        x.touch(0, 4);
        CHECK.due("seven", x.hush(), 4);
        x.fork(0);
        CHECK.due("a cracked one", x.hush(), 1);

        ShakingCourt y = CHECK.courtOf("cells 4; fades 0;");
        CHECK.due("no rise", y.rises(0), 0);
        y.touch(0, 8);
        CHECK.due("every other one", y.rises(0), 10);
        CHECK.due("the others, too", y.rises(1), 10);
        y.beat();
        CHECK.due("a beat on", y.rises(1), 10);
        CHECK.due("below", y.rises(-1), -1);
        CHECK.due("beyond", y.rises(4), -1);
        y.fork(2);
        CHECK.due("a cracked one has none", y.rises(2), -1);
    }

    private static void promise38() {
        ShakingCourt x = CHECK.courtOf("cells 4; heat 3; fades warm * 4;");
        x.touch(0, 20);
        CHECK.due("one beat", x.chance(1, 1, 3), 700000);
        CHECK.due("where it can't", x.chance(0, 1, 3), 0);
        CHECK.due("two beats", x.chance(0, 2, 3), 490000);
        CHECK.due("six beats", x.chance(0, 6, 3), 117649);
        CHECK.due("never hot", x.chance(0, 6, 0), 1000000);
        CHECK.due("always hot", x.chance(1, 1, 10), 0);
        CHECK.due("no beats", x.chance(0, 0, 3), -1);
        CHECK.due("too many", x.chance(0, 7, 3), -1);
        CHECK.due("odds below", x.chance(0, 2, -1), -1);
        CHECK.due("odds beyond", x.chance(0, 2, 11), -1);
        CHECK.due("below", x.chance(-1, 2, 1), -1);
        CHECK.due("beyond", x.chance(4, 2, 1), -1);
        x.fork(2);
        CHECK.due("a cracked one", x.chance(2, 2, 1), -1);
        // Only the beat of number 1 matters.
        ShakingCourt y = CHECK.courtOf("cells 4; fades (time = 1) * warm * 4;");
        y.touch(0, 20);
        CHECK.due("by time", y.chance(0, 4, 2), 800000);
        y.beat();
        CHECK.due("time goes on", y.chance(0, 1, 2), 800000);
        // Hot beats alone leave it, and by 1: one of a million ways.
        ShakingCourt z = CHECK.courtOf("cells 4; fades (warm = 0) * 4;");
        z.touch(0, 2);
        CHECK.due("the least there is", z.chance(0, 6, 1), 1);
    }

    private static void promise39() {
        rests(5, 2, 3, 0, 3);
        rests(3, 2, 5, 0);
        rests(3, 2, 3, 0, 3);
        rests(0, 0, 0, 0, 1, 2, 3);
        rests(3, 0, 5, 0, 1, 2);
        rests(5, 0, 3, 0, 3);
        rests(9, 9, 9, 0, 3);
        int[][] wrong = {{-1, 0, 0, -1}, {10, 0, 0, -1}, {0, -1, 0, -1}, {0, 10, 0, -1}, {0, 0, -1, -1}, {0, 0, 10, -1},
            {0, 0, 0, -2}, {0, 0, 0, 4}, {3, 2, 5, 1}, {-1, 0, 0, 0}, {0, 0, 0, Integer.MIN_VALUE}, {0, 0, 0, Integer.MAX_VALUE}};
        for (int[] w : wrong) {
            CHECK.due("rests " + java.util.Arrays.toString(w), throwsNone(w), true);
        }
    }

    private static void rests(int both, int loses, int gets, int... want) {
        ShakingCourt x = new ShakingCourt();
        String text = "rests " + both + " " + loses + " " + gets + " ";
        CHECK.due(text, x.rests(both, loses, gets, -1), want.length);
        for (int i = 0; i < want.length; i++) {
            CHECK.due(text + i, x.rests(both, loses, gets, i), want[i]);
        }
        CHECK.due(text + "one more", throwsNone(new int[] {both, loses, gets, want.length}), true);
    }

    private static boolean throwsNone(int[] w) {
        try {
            new ShakingCourt().rests(w[0], w[1], w[2], w[3]);
            return false;
        } catch (NoSuchElementException e) {
            return true;
        }
    }

    private static void promise40() {
        ShakingCourt x = new ShakingCourt();
        years(x, 1, 6, 0, 4, 16);
        years(x, 5, 6, 0, 1, 1);
        years(x, 9999, 6, 0, 7, 22);
        ShakingCourt y = CHECK.courtOf("cells 5; fades 0; courtier a plain at 1 loyal 1; courtier b spoon at 4 loyal 3;");
        y.fork(2);
        years(y, 0, 12, 49, 2, 12);
        years(y, 1, 12, 55, 3, 9);
        years(y, 9999, 12, 117, 2, 8);
        y.touch(0, 6);
        y.beat();
        int done = y.count(7);
        CHECK.due("done ahead", done > 0, true);
        CHECK.due("only by these", y.years(0, 1, 0) < y.years(0, 99, 0), true);
        CHECK.due("all is as ahead", y.count(7), done);
        CHECK.due("one beat", x.years(9999, 1, 2), 8);
        CHECK.due("seed 0, one beat", x.years(0, 1, 1), 2);
        CHECK.due("99 beats", x.years(0, 99, 1) >= 0, true);
        CHECK.due("seed below", x.years(-1, 1, 0), -1);
        CHECK.due("seed beyond", x.years(10000, 1, 0), -1);
        CHECK.due("no beats", x.years(0, 0, 0), -1);
        CHECK.due("too many", x.years(0, 100, 0), -1);
        CHECK.due("what below", x.years(0, 1, -1), -1);
        CHECK.due("what beyond", x.years(0, 1, 3), -1);
    }

    private static void years(ShakingCourt x, int seed, int beats, int... want) {
        for (int what = 0; what < 3; what++) {
            CHECK.due("years " + seed + " " + what, x.years(seed, beats, what), want[what]);
        }
    }

    private static void nothingChanges() {
        ShakingCourt x = CHECK.courtOf("cells 5; fades 0; courtier a plain at 1 loyal 1; courtier b spoon at 4 loyal 3;");
        x.touch(0, 20);
        x.beat();
        Check.tellReign(x, "fork 1; beat; turn;");
        int[] before = new int[12];
        for (int what = 0; what < 12; what++) {
            before[what] = x.count(what);
        }
        x.judged(0);
        x.later(0, 60);
        x.still();
        x.peak(0);
        x.total(0, 60);
        x.nudge(0, 12, 1, 0);
        x.guard(0);
        x.swap();
        x.ways(0);
        x.look(12);
        x.reach(0, 1);
        x.calmest(60);
        x.lazy();
        x.post(0);
        x.hush();
        x.rises(0);
        x.chance(0, 6, 5);
        x.years(1, 99, 0);
        for (int what = 0; what < 12; what++) {
            CHECK.due("asking changes nothing, " + what, x.count(what), before[what]);
        }
        CHECK.due("place", x.courtier(0, 1), 1);
        CHECK.due("shake", x.shake(1), 10);
    }
}
