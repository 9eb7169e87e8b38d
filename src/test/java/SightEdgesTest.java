/** The edges of what would be and of what is felt: promises 15 to 24, 31, 33 to 35 and 37. */
public final class SightEdgesTest {
    private static final int[] FAR_WHATS = {-2, 4, 32, Integer.MIN_VALUE, Integer.MAX_VALUE};
    private static Edges edges;

    private SightEdgesTest() { }

    public static void main(String[] args) throws Exception {
        edges = new Edges("SightEdgesTest");
        later();
        still();
        peak();
        peakAtTheEdge();
        total();
        nudgeForces();
        nudgeShakes();
        nudgeBeats();
        nudgeEqualOnes();
        nudgeOthers();
        nudgeInTwelve();
        guard();
        guardInTwentyBeats();
        swap();
        swapInTwentyBeats();
        feel();
        feelEight();
        waysNow();
        waysOfForces();
        waysOfBeats();
        waysOthers();
        look();
        lookBeats();
        lookForces();
        lookInTwelve();
        reach();
        reachWhereItShakes();
        reachAtTheEdge();
        calmest();
        lazy();
        post();
        postInTwentyBeats();
        postWhereItIsStill();
        rises();
        nothingElse();
        edges.end();
    }

    private static ShakingCourt constantTill(int time, int much) {
        return edges.shaking("cells 3;fades (time = " + time + ") * 99;courtier a plain at 0 loyal 0;", much);
    }

    private static void later() {
        edges.says("LATER: how a CELL shakes behind so many (0 to 60) BEATS.");
        ShakingCourt x = constantTill(59, 5);
        edges.due("0", x.later(0, 0), 5);
        edges.due("1", x.later(0, 1), 5);
        edges.due("59", x.later(0, 59), 5);
        edges.due("60", x.later(0, 60), 0);
        edges.due("61", x.later(0, 61), -1);
        edges.due("-1", x.later(0, -1), -1);
        edges.due("far below", x.later(0, Integer.MIN_VALUE), -1);
        edges.due("far beyond", x.later(0, Integer.MAX_VALUE), -1);
        edges.due("60, but for the last", constantTill(60, 5).later(0, 60), 5);

        edges.says("LATER; NONE: others, it is cracked.");
        edges.due("the last one", x.later(2, 60), 0);
        edges.due("beyond", x.later(3, 0), -1);
        for (int cell : Edges.FAR_OFF) {
            edges.due("cell " + cell, x.later(cell, 0), -1);
        }
        x.fork(0);
        edges.due("cracked", x.later(0, 0), -1);
        edges.due("beside it", x.later(1, 0), 5);
    }

    private static void still() {
        edges.says("STILL: behind how many (0 to 60) none shakes for the first time.");
        edges.due("at once", constantTill(0, 0).still(), 0);
        edges.due("1", constantTill(0, 5).still(), 1);
        edges.due("59", constantTill(58, 5).still(), 59);
        edges.due("60", constantTill(59, 5).still(), 60);

        edges.says("STILL; NONE: not by 60.");
        ShakingCourt x = constantTill(60, 5);
        edges.due("61", x.still(), -1);
        x.beat();
        edges.due("a beat on", x.still(), 60);
        x.fork(0);
        x.fork(1);
        edges.due("one alone", x.still(), 1);
        x.fork(2);
        edges.due("cracked ones are still", x.still(), 0);
        edges.due("a new object", new ShakingCourt().still(), 0);
    }

    private static void peak() {
        edges.says("PEAK of a CELL: behind how many (0 to 60) it shakes the most; of equal ones the first.");
        edges.due("nothing shakes", constantTill(0, 0).peak(0), 0);
        edges.due("all equal", constantTill(60, 5).peak(2), 0);
        edges.due("it shakes less", constantTill(0, 5).peak(2), 0);
        ShakingCourt x = edges.court("cells 8;fades 0;");
        x.touch(0, 20);
        edges.due("the touched one", x.peak(0), 0);
        edges.due("beside", x.peak(1), 1);
        edges.due("beside, round the ring", x.peak(7), 1);

        edges.says("PEAK; NONE: others, it is cracked.");
        edges.due("beyond", x.peak(8), -1);
        for (int cell : Edges.FAR_OFF) {
            edges.due("cell " + cell, x.peak(cell), -1);
        }
        x.fork(1);
        edges.due("cracked", x.peak(1), -1);
    }

    // The even cells but the first shake; every other beat what comes to the first one, which is the least, fades,
    // but for the one at the time told: that alone makes it shake.
    private static ShakingCourt held(int time) {
        ShakingCourt x = edges.court("cells 12;heat 0 1;fades warm * 99 * not (time = " + time + ") * (wave < 4 + (time < 7) * 19"
            + " + (time < 17) * 11 + (time < 29) * 8 + (time < 41) * 5 + (time < 51) * 3);");
        for (int cell = 2; cell < 12; cell += 2) {
            Edges.raise(x, cell, 99);
        }
        return x;
    }

    private static void peakAtTheEdge() {
        edges.says("behind how many (0 to 60) it shakes the most");
        edges.due("58", held(57).peak(0), 58);
        ShakingCourt x = held(59);
        edges.due("it shakes at last", x.later(0, 60), 2);
        edges.due("and not ahead", x.later(0, 58), 0);
        edges.due("60", x.peak(0), 60);
        x.beat();
        edges.due("59", x.peak(0), 59);
        ShakingCourt y = held(61);
        edges.due("62", y.peak(0), 0);
        y.beat();
        edges.due("61", y.peak(0), 0);
        y.beat();
        edges.due("60, two beats on", y.peak(0), 60);
    }

    private static void total() {
        edges.says("TOTAL of a COURTIER: what he will have DONE more behind so many (1 to 60).");
        ShakingCourt x = edges.court("reads 1 + 50 * (time = 60);courtier a plain at 0 loyal 0;courtier b maid at 1 loyal 0;");
        for (int beats = 1; beats <= 60; beats++) {
            edges.due(beats + " beats", x.total(1, beats), beats);
        }
        x.beat();
        edges.due("more, not all", x.total(0, 1), 1);
        edges.due("59 more", x.total(0, 59), 59);
        edges.due("60 more", x.total(0, 60), 110);

        edges.says("TOTAL; NONE: others.");
        for (int beats : new int[] {0, -1, 61, 62, Integer.MIN_VALUE, Integer.MAX_VALUE}) {
            edges.due("beats " + beats, x.total(0, beats), -1);
        }
        edges.due("one beyond", x.total(2, 1), -1);
        for (int man : Edges.FAR_OFF) {
            edges.due("courtier " + man, x.total(man, 1), -1);
        }
        edges.due("nobody", new ShakingCourt().total(0, 1), -1);
    }

    private static void nudge(ShakingCourt x, int cell, int beats, int shake, int force, int where) {
        String asked = "nudge " + cell + " " + beats + " " + shake;
        edges.due(asked, x.nudge(cell, beats, shake, 0), force);
        edges.due(asked + " where", x.nudge(cell, beats, shake, 1), where);
    }

    private static void nudgeForces() {
        edges.says("the least force (1 to 20) of one TOUCH now so that it shakes no less then");
        ShakingCourt x = edges.court("cells 5;fades 0;");
        nudge(x, 3, 0, 1, 1, 3);
        nudge(x, 3, 0, 19, 19, 3);
        nudge(x, 3, 0, 20, 20, 3);
        nudge(x, 3, 0, 21, -1, -1);
        nudge(x, 3, 1, 9, 18, 2);
        nudge(x, 3, 1, 10, 20, 2);
        nudge(x, 3, 1, 11, -1, -1);
        nudge(x, 0, 1, 10, 20, 1);
        nudge(x, 4, 1, 10, 20, 0);
        // It is one touch, however little is needed.
        Edges.raise(x, 3, 30);
        nudge(x, 3, 0, 29, 1, 0);
        nudge(x, 3, 0, 30, 1, 0);
        nudge(x, 3, 0, 31, 1, 3);
        nudge(x, 3, 0, 32, 2, 3);
        nudge(x, 3, 0, 50, 20, 3);
        nudge(x, 3, 0, 51, -1, -1);
    }

    private static void nudgeShakes() {
        edges.says("a shake (1 to 99)");
        ShakingCourt x = edges.court("cells 3;fades 0;");
        Edges.raise(x, 0, 78);
        Edges.raise(x, 1, 79);
        Edges.raise(x, 2, 98);
        nudge(x, 0, 0, 98, 20, 0);
        nudge(x, 0, 0, 99, -1, -1);
        nudge(x, 1, 0, 99, 20, 1);
        nudge(x, 2, 0, 99, 1, 2);
        x.touch(2, 1);
        nudge(x, 2, 0, 99, 1, 0);
        for (int shake : new int[] {0, -1, 100, 101, Integer.MIN_VALUE, Integer.MAX_VALUE}) {
            nudge(x, 2, 0, shake, -1, -1);
        }
    }

    private static void nudgeBeats() {
        edges.says("NUDGE for a CELL, so many (0 to 12) BEATS");
        nudge(constantTill(12, 5), 1, 12, 5, 1, 0);
        nudge(constantTill(11, 5), 1, 11, 5, 1, 0);
        nudge(constantTill(11, 5), 1, 12, 5, -1, -1);
        nudge(constantTill(99, 5), 1, 0, 5, 1, 0);
        for (int beats : new int[] {-1, 13, 14, Integer.MIN_VALUE, Integer.MAX_VALUE}) {
            nudge(constantTill(99, 5), 1, beats, 5, -1, -1);
        }
    }

    private static void nudgeEqualOnes() {
        edges.says("of equal ones the first CELL to be touched: how much; where.");
        ShakingCourt x = edges.court("cells 5;fades 0;");
        nudge(x, 2, 1, 5, 10, 1);
        nudge(x, 0, 1, 5, 10, 1);
        nudge(x, 4, 1, 5, 10, 0);
        // The least force comes first, then the first cell: cell 3 does it by less than cell 1.
        ShakingCourt y = edges.court("cells 5;fades (wave < 6) * 5;");
        y.touch(3, 1);
        nudge(y, 2, 1, 6, 11, 1);
        ShakingCourt z = edges.court("cells 5;fades 0;");
        Edges.raise(z, 0, 90);
        Edges.raise(z, 2, 4);
        // Of cell 1: 94 / 2 is 47; cell 0 has but 9 to come, and cell 2 has 20.
        nudge(z, 1, 1, 48, 2, 0);
        nudge(z, 1, 1, 51, 8, 0);
        nudge(z, 1, 1, 52, 10, 2);
        nudge(z, 1, 1, 57, 20, 2);
        nudge(z, 1, 1, 58, -1, -1);
        z.fork(0);
        nudge(z, 1, 1, 3, 2, 2);
        nudge(z, 1, 0, 1, 1, 1);
        nudge(z, 4, 1, 1, 2, 3);
    }

    private static void nudgeOthers() {
        edges.says("NUDGE, what 0: how much, 1: where; NONE: others, it is cracked, by none.");
        ShakingCourt x = edges.shaking("cells 3;fades 0;", 9);
        edges.due("what 0", x.nudge(2, 0, 10, 0), 1);
        edges.due("what 1", x.nudge(2, 0, 10, 1), 2);
        edges.due("what below", x.nudge(2, 0, 10, -1), -1);
        edges.due("what beyond", x.nudge(2, 0, 10, 2), -1);
        edges.due("what far below", x.nudge(2, 0, 10, Integer.MIN_VALUE), -1);
        edges.due("what far beyond", x.nudge(2, 0, 10, Integer.MAX_VALUE), -1);
        nudge(x, 3, 0, 1, -1, -1);
        for (int cell : Edges.FAR_OFF) {
            nudge(x, cell, 0, 1, -1, -1);
        }
        x.fork(2);
        nudge(x, 2, 0, 1, -1, -1);
        x.fork(0);
        nudge(x, 1, 0, 9, 1, 1);
        nudge(x, 1, 1, 1, -1, -1);
    }

    private static void nudgeInTwelve() {
        edges.says("by none.");
        ShakingCourt x = edges.court("cells 12;fades 0;");
        nudge(x, 11, 0, 21, -1, -1);
        nudge(x, 0, 1, 11, -1, -1);
        nudge(x, 10, 1, 10, 20, 9);
        nudge(x, 11, 0, 20, 20, 11);
        for (int cell = 0; cell < 11; cell++) {
            x.fork(cell);
        }
        nudge(x, 11, 0, 20, 20, 11);
        nudge(x, 11, 0, 21, -1, -1);
        nudge(x, 11, 1, 1, -1, -1);
    }

    private static void guard() {
        edges.says("GUARD of a COURTIER: the CELL (not cracked) in which a FORK now makes his TOTAL of 20 the least; of equal ones the first.");
        ShakingCourt x = edges.court("cells 6;fades 0;courtier a plain at 4 loyal 0;courtier b plain at 5 loyal 0;");
        edges.due("nothing shakes", x.guard(0), 0);
        x.touch(4, 20);
        // Without cell 4 nothing ever shakes; a has nothing to read there either way.
        edges.due("a", x.guard(0), 4);
        edges.due("b", x.guard(1), 4);
        x.fork(0);
        edges.due("not a cracked one", x.guard(0), 4);
        x.fork(4);
        edges.due("the first of the rest", x.guard(0), 1);

        edges.says("GUARD; NONE: others, all are cracked.");
        edges.due("one beyond", x.guard(2), -1);
        for (int man : Edges.FAR_OFF) {
            edges.due("courtier " + man, x.guard(man), -1);
        }
        x.fork(1);
        x.fork(2);
        x.fork(3);
        edges.due("one is left", x.guard(0), 5);
        x.fork(5);
        edges.due("all are cracked", x.guard(0), -1);
        edges.due("nobody", new ShakingCourt().guard(0), -1);
    }

    private static void guardInTwentyBeats() {
        edges.says("in which a FORK now makes his TOTAL of 20 the least");
        String text = "cells 12;fades 0;courtier a plain at 6 loyal 0;reads wave * (time = #);";
        edges.due("by the last beat", edges.shaking(text.replace("#", "19"), 99).guard(0), 6);
        edges.due("not by the next one", edges.shaking(text.replace("#", "20"), 99).guard(0), 0);
        edges.due("by the first beat", edges.shaking(text.replace("#", "0"), 99).guard(0), 6);
        ShakingCourt x = edges.shaking(text.replace("#", "20"), 99);
        x.beat();
        edges.due("a beat on", x.guard(0), 6);
        // He has something to do whatever is forked, and has done something.
        ShakingCourt z = edges.court("cells 12;fades 0;reads wave + 1;courtier a plain at 6 loyal 0;");
        Edges.raise(z, 3, 99);
        Edges.raise(z, 11, 40);
        z.beat();
        // Of what shakes at 2 and 4 the nearer one matters, and he has nothing at all at a cracked one of his own.
        edges.due("his own", z.guard(0), 6);
        z.fork(6);
        edges.due("his own is cracked: all are equal", z.guard(0), 0);
        z.fork(0);
        edges.due("the next one", z.guard(0), 1);
        // A fork may make him do more, too: the least is looked for.
        ShakingCourt y = edges.shaking("cells 3;fades 0;courtier a child at 1 loyal 0;", 30);
        edges.due("a child has nothing where it shakes more", y.total(0, 20), 0);
        edges.due("his own cell", y.guard(0), 1);
    }

    private static void swap() {
        edges.says("SWAP: the two COURTIERS who should CHANGE now so that the TOTALS of 20 of all, together, are the most,"
            + " if that is more than without; of equal ones the first by the lesser, then the other one.");
        // One beat leaves 1 in cells 1 and 5, and the next one nothing: a maid there does 1 more.
        String law = "cells 6;fades 9;reads 0;";
        ShakingCourt x = edges.court(law + "courtier a plain at 1 loyal 0;courtier b maid at 3 loyal 0;");
        edges.due("nothing shakes", x.swap(), -1);
        x.touch(0, 20);
        edges.due("by 1", x.swap(), 1);
        x.change(0, 1);
        edges.due("it would be less", x.swap(), -1);
        ShakingCourt y = edges.court(law + "courtier a plain at 1 loyal 0;courtier b plain at 3 loyal 0;");
        y.touch(0, 20);
        edges.due("as much as without", y.swap(), -1);
        ShakingCourt z = edges.court(law + "courtier a plain at 1 loyal 0;courtier b maid at 3 loyal 0;courtier c maid at 2 loyal 0;"
            + "courtier d plain at 5 loyal 0;courtier e plain at 4 loyal 0;courtier f plain at 4 loyal 0;");
        z.touch(0, 20);
        edges.due("0 and 1 of 0 1, 0 2, 1 3, 2 3", z.swap(), 1);
        z.change(0, 4);
        // Now e, 4, stands at 1.
        edges.due("1 and 3 of 1 3, 1 4, 2 3, 2 4", z.swap(), 8 + 3);
        z.change(1, 5);
        // Now f, 5, stands at 3 and b, 1, at 4.
        edges.due("1 and 3 still", z.swap(), 8 + 3);
        z.change(1, 4);
        // b, 1, stands at 1; c, 2, alone is to go to 5.
        edges.due("2 and 3", z.swap(), 16 + 3);
        z.change(3, 5);
        // f, 5, stands at 5: the last two that can be told are 4 and 5; here 2 and 5.
        edges.due("2 and 5", z.swap(), 16 + 5);
        z.change(2, 4);
        edges.due("2 and 5, wherever else they stand", z.swap(), 16 + 5);

        edges.says("SWAP, as 8 * the lesser + the other one; NONE: none is better.");
        ShakingCourt w = edges.court(law + "courtier a plain at 2 loyal 0;courtier b plain at 2 loyal 0;courtier c plain at 2 loyal 0;"
            + "courtier d plain at 2 loyal 0;courtier e maid at 3 loyal 0;courtier f plain at 5 loyal 0;");
        w.touch(0, 20);
        edges.due("4 and 5", w.swap(), 32 + 5);
        // As much as all do without is no gain, 1 more is.
        for (int read = 0; read <= 5; read++) {
            ShakingCourt v = edges.court("cells 6;fades 9;reads " + read + ";courtier a plain at 1 loyal 0;courtier b maid at 3 loyal 0;");
            edges.due("nothing more by " + read, v.swap(), -1);
            v.beat();
            v.touch(0, 20);
            edges.due("1 more by " + read, v.swap(), 1);
            v.change(0, 1);
            edges.due("1 less by " + read, v.swap(), -1);
        }
        edges.due("alone", edges.court("courtier a maid at 2 loyal 0;").swap(), -1);
        edges.due("nobody", new ShakingCourt().swap(), -1);
    }

    private static void swapInTwentyBeats() {
        edges.says("so that the TOTALS of 20 of all, together, are the most");
        // Behind 20 beats cells 0 and 2 shake, behind 21 cells 1 and 3.
        String text = "cells 4;fades 0;reads heart * wave * (time = #);courtier a plain at 0 loyal 1;courtier b plain at 1 loyal 9;";
        ShakingCourt x = edges.court(text.replace("#", "19"));
        x.touch(0, 8);
        edges.due("by the last beat", x.swap(), 1);
        x.change(0, 1);
        edges.due("changed", x.swap(), -1);
        ShakingCourt y = edges.court(text.replace("#", "20"));
        y.touch(0, 8);
        edges.due("not by the next one", y.swap(), -1);
        y.change(0, 1);
        edges.due("nor changed", y.swap(), -1);
        y.beat();
        edges.due("a beat on", y.swap(), 1);
    }

    private static void feel() {
        edges.says("FELT: that behind so many (0 to 12) BEATS a CELL shakes so (0 to 99)");
        ShakingCourt x = edges.court("cells 5;");
        for (int beats : new int[] {-1, 13, 14, Integer.MIN_VALUE, Integer.MAX_VALUE}) {
            edges.due("beats " + beats, x.feel(0, beats, 0), false);
        }
        for (int shake : new int[] {-1, 100, 101, Integer.MIN_VALUE, Integer.MAX_VALUE}) {
            edges.due("shake " + shake, x.feel(0, 0, shake), false);
        }
        edges.due("nothing felt", x.count(9), 0);
        edges.due("0 beats, 0", x.feel(0, 0, 0), true);
        edges.due("12 beats, 99", x.feel(4, 12, 99), true);
        edges.due("0 beats, 99", x.feel(4, 0, 99), true);
        edges.due("12 beats, 0", x.feel(0, 12, 0), true);
        edges.due("four", x.count(9), 4);

        edges.says("FELT: true; false: others, it is cracked, 8 there are.");
        edges.due("beyond", x.feel(5, 0, 0), false);
        for (int cell : Edges.FAR_OFF) {
            edges.due("cell " + cell, x.feel(cell, 0, 0), false);
        }
        x.fork(0);
        edges.due("cracked", x.feel(0, 0, 0), false);
        edges.due("beside it", x.feel(1, 0, 0), true);
        edges.due("five", x.count(9), 5);
    }

    private static void feelEight() {
        edges.says("by an unknown force (1 to 20); 8 at most.");
        ShakingCourt x = edges.court("cells 5;fades 0;");
        for (int i = 0; i < 7; i++) {
            edges.due("felt " + i, x.feel(0, 0, 0), true);
        }
        edges.due("seven leave ways", x.ways(0), 80);
        edges.due("the eighth", x.feel(1, 0, 0), true);
        edges.due("counts", x.ways(0), 60);
        edges.due("a ninth", x.feel(2, 0, 0), false);
        edges.due("does not", x.ways(0), 60);
        edges.due("eight", x.count(9), 8);
        x.undo();
        edges.due("still a ninth", x.feel(2, 0, 0), false);
        Check.tellCourt(x, "cells 5;fades 0;");
        edges.due("nothing felt in a new court", x.ways(0), 100);
    }

    private static void ways(ShakingCourt x, int many, int cells, int least, int most) {
        edges.due("ways", x.ways(0), many);
        edges.due("their cells", x.ways(1), cells);
        edges.due("the least force", x.ways(2), least);
        edges.due("the greatest force", x.ways(3), most);
    }

    private static void waysNow() {
        edges.says("if an unknown one (not cracked) were TOUCHED now");
        for (int cells = 3; cells <= 12; cells++) {
            ways(edges.court("cells " + cells + ";"), 20 * cells, (1 << cells) - 1, 1, 20);
        }
        ShakingCourt x = edges.court("cells 3;fades 0;");
        x.fork(0);
        ways(x, 40, 6, 1, 20);
        x.fork(2);
        ways(x, 20, 2, 1, 20);
        x.fork(1);
        ways(x, 0, 0, -1, -1);
        // Now is when it is asked: what was touched since is no way.
        ShakingCourt y = edges.court("cells 3;fades 0;");
        y.feel(1, 0, 5);
        ways(y, 1, 2, 5, 5);
        y.touch(1, 2);
        ways(y, 1, 2, 3, 3);
        y.touch(1, 2);
        ways(y, 1, 2, 1, 1);
        y.touch(1, 1);
        ways(y, 40, 5, 1, 20);
        y.touch(1, 1);
        ways(y, 0, 0, -1, -1);
        y.undo();
        ways(y, 40, 5, 1, 20);
    }

    private static ShakingCourt felt(int base, int cell, int beats, int shake) {
        ShakingCourt x = edges.court("cells 4;fades 0;");
        Edges.raise(x, 2, base);
        edges.due("felt", x.feel(cell, beats, shake), true);
        return x;
    }

    private static void waysOfForces() {
        edges.says("WAYS (a CELL, a force) by which all FELT is so: how many; their CELLS (bits); the least force, the greatest.");
        ways(felt(0, 2, 0, 0), 60, 11, 1, 20);
        ways(felt(0, 2, 0, 1), 1, 4, 1, 1);
        ways(felt(0, 2, 0, 20), 1, 4, 20, 20);
        ways(felt(0, 2, 0, 21), 0, 0, -1, -1);
        ways(felt(30, 2, 0, 29), 0, 0, -1, -1);
        ways(felt(30, 2, 0, 30), 60, 11, 1, 20);
        ways(felt(30, 2, 0, 31), 1, 4, 1, 1);
        ways(felt(30, 2, 0, 50), 1, 4, 20, 20);
        ways(felt(30, 2, 0, 51), 0, 0, -1, -1);
        ways(felt(79, 2, 0, 99), 1, 4, 20, 20);
        ways(felt(80, 2, 0, 99), 2, 4, 19, 20);
        ways(felt(98, 2, 0, 99), 20, 4, 1, 20);
        ways(felt(99, 2, 0, 99), 80, 15, 1, 20);
        // Beside it a beat on: forces 2 and 3 bring 1, 20 alone brings 10.
        ways(felt(0, 2, 1, 1), 4, 10, 2, 3);
        ways(felt(0, 2, 1, 10), 2, 10, 20, 20);
        ways(felt(0, 2, 1, 0), 42, 15, 1, 20);
    }

    private static void waysOfBeats() {
        edges.says("FELT: that behind so many (0 to 12) BEATS");
        ShakingCourt x = constantTill(12, 5);
        edges.due("felt", x.feel(1, 12, 0), true);
        ways(x, 0, 0, -1, -1);
        ShakingCourt y = constantTill(11, 5);
        edges.due("felt", y.feel(1, 12, 0), true);
        ways(y, 60, 7, 1, 20);
        edges.due("felt, too", y.feel(1, 12, 1), true);
        ways(y, 0, 0, -1, -1);
        ShakingCourt z = constantTill(11, 5);
        edges.due("felt", z.feel(1, 11, 0), true);
        ways(z, 0, 0, -1, -1);
    }

    private static void waysOthers() {
        edges.says("WAYS, what 0: how many, 1: CELLS (bits), 2, 3: forces; NONE: others, none (but 0, 1).");
        ShakingCourt x = edges.court("cells 3;");
        edges.due("what below", x.ways(-1), -1);
        for (int what : FAR_WHATS) {
            edges.due("what " + what, x.ways(what), -1);
        }
        x.feel(0, 0, 99);
        ways(x, 0, 0, -1, -1);
        edges.due("what below, none", x.ways(-1), -1);
        edges.due("what beyond, none", x.ways(4), -1);
    }

    private static void look() {
        edges.says("the CELL for which the greatest number of WAYS by which it shakes alike then is the least, if that is less than all;"
            + " of equal ones the first.");
        ShakingCourt x = edges.court("cells 4;fades 0;");
        edges.due("all alike", x.look(0), 0);
        x.feel(0, 0, 0);
        edges.due("not the first", x.look(0), 1);
        x.feel(1, 0, 0);
        edges.due("nor the second", x.look(0), 2);
        x.feel(2, 0, 0);
        edges.due("but the last", x.look(0), 3);
        x.feel(3, 0, 4);
        edges.due("one way", x.ways(0), 1);
        edges.due("one can't be parted", x.look(0), -1);
        x.feel(3, 0, 5);
        edges.due("none", x.ways(0), 0);
        edges.due("none to part", x.look(0), -1);

        edges.says("FEEL; NONE: others, none parts them.");
        ShakingCourt y = edges.court("cells 4;fades 0;");
        y.feel(0, 1, 5);
        // Cells 1 and 3 by 10 or 11.
        edges.due("four", y.ways(0), 4);
        edges.due("1 parts them in three", y.look(0), 1);
        edges.due("none a beat on", y.look(1), -1);
        y.feel(1, 0, 0);
        edges.due("two", y.ways(0), 2);
        edges.due("3 parts them", y.look(0), 3);
        edges.due("two can't be parted a beat on", y.look(1), -1);
        y.fork(3);
        edges.due("a cracked one parts none", y.look(0), -1);
    }

    private static void lookBeats() {
        edges.says("FEEL at so many (0 to 12) BEATS");
        // A touch of an odd ring is seen everywhere in 12 beats, till all fades.
        for (int beats = 0; beats <= 12; beats++) {
            edges.due(beats + " beats", constantTill(beats, 50).look(beats) >= 0, true);
        }
        for (int beats = 1; beats <= 12; beats++) {
            edges.due(beats + " beats, in the last of which all fades", constantTill(beats - 1, 50).look(beats), -1);
        }
        for (int beats : new int[] {-1, 13, 14, Integer.MIN_VALUE, Integer.MAX_VALUE}) {
            edges.due("beats " + beats, constantTill(99, 50).look(beats), -1);
        }
    }

    // Cell 0 alone was touched, by one of two forces that bring the same beside it.
    private static int lookOf(int base, int shake) {
        ShakingCourt x = edges.court("cells 3;fades 0;");
        Edges.raise(x, 0, base);
        x.feel(1, 1, shake);
        x.feel(1, 0, 0);
        x.feel(2, 0, 0);
        return x.look(0);
    }

    private static void lookForces() {
        edges.says("TOUCHED now by an unknown force (1 to 20)");
        edges.due("0 or 1: it is 1", lookOf(0, 0), -1);
        edges.due("1 or 2", lookOf(1, 1), 0);
        edges.due("2 or 3", lookOf(0, 1), 0);
        edges.due("18 or 19", lookOf(0, 9), 0);
        edges.due("19 or 20", lookOf(1, 10), 0);
        edges.due("20 or 21: it is 20", lookOf(0, 10), -1);
        edges.due("21 or 22: none", lookOf(1, 11), -1);
    }

    private static void lookInTwelve() {
        edges.says("the CELL for which the greatest number of WAYS by which it shakes alike then is the least, if that is less than all");
        for (int cell = 0; cell < 12; cell++) {
            ShakingCourt x = edges.court("cells 12;fades 0;");
            for (int other = 0; other < 12; other++) {
                Edges.raise(x, other, other == cell ? 79 : 99);
            }
            edges.due("99 by 99, but for cell " + cell, x.look(0), cell);
            Edges.raise(x, cell, 20);
            edges.due("99 all over", x.look(0), -1);
            edges.due("99 all over, 12 beats on", x.look(12), -1);
        }
    }

    private static void reachWhereItShakes() {
        edges.says("REACH of one CELL by another one (neither cracked): behind how many (0 to 20) BEATS it shakes otherwise");
        ShakingCourt x = edges.court("cells 12;fades 0;");
        Edges.raise(x, 0, 40);
        // What it does without the touch, too, is not otherwise.
        edges.due("beside one that shakes", x.reach(1, 3), 2);
        edges.due("four off", x.reach(0, 4), 4);
        edges.due("itself", x.reach(0, 0), 0);
        edges.due("by the one that shakes", x.reach(1, 0), 1);
        x.fork(2);
        x.fork(11);
        edges.due("it goes up and down behind a wall", x.reach(0, 4), -1);
        edges.due("and beside it", x.reach(1, 4), -1);
        edges.due("within the walls", x.reach(0, 1), 1);
        x.undo();
        edges.due("one wall is open again", x.reach(0, 10), 2);
    }

    private static void reach() {
        edges.says("behind how many (0 to 20) BEATS it shakes otherwise, for the first time, if the other one is TOUCHED by 20 now.");
        ShakingCourt x = edges.court("cells 12;fades 0;");
        int[] away = {0, 1, 2, 3, 4};
        for (int far : away) {
            edges.due(far + " off", x.reach(0, far), far);
            edges.due(far + " off, the other way", x.reach(far == 0 ? 0 : 12 - far, 0), far);
        }
        // 20, 10, 5, 2, 1, 0: five off it does not come, even from both sides.
        edges.due("five off", x.reach(0, 5), -1);
        edges.due("a touch of 20, not of 22", edges.court("cells 3;fades 10;").reach(0, 1), -1);
        edges.due("a touch of 20, not of 19", edges.court("cells 3;fades 9;").reach(0, 1), 1);
        // With the 1 that is there, 21 would bring 11.
        ShakingCourt one = edges.court("cells 3;fades 10;");
        one.touch(1, 1);
        edges.due("a touch of 20, not of 21", one.reach(0, 1), -1);
        one.touch(1, 1);
        edges.due("with a touch of 1 more", one.reach(0, 1), 1);
        ShakingCourt full = edges.shaking("cells 3;fades 0;", 99);
        edges.due("99 can't be more", full.reach(0, 0), -1);
        full.breathe(0);
        edges.due("96 can", full.reach(0, 0), 0);

        edges.says("REACH; NONE: others, one is cracked, not by 20.");
        edges.due("beyond", x.reach(12, 0), -1);
        edges.due("by one beyond", x.reach(0, 12), -1);
        for (int cell : Edges.FAR_OFF) {
            edges.due("cell " + cell, x.reach(cell, 0), -1);
            edges.due("by " + cell, x.reach(0, cell), -1);
        }
        x.fork(1);
        edges.due("cracked", x.reach(1, 0), -1);
        edges.due("by a cracked one", x.reach(0, 1), -1);
        edges.due("walled off", x.reach(2, 0), -1);
    }

    // As held(), but that both a touch of cell 6 by 20 and none leave what comes to the first cell the least.
    private static ShakingCourt heldForReach(int time) {
        ShakingCourt x = edges.court("cells 12;heat 0 1;fades warm * 99 * not (time = " + time
            + ") * (wave < 20 + (time < 12) * 6 + (time < 4) * 14);");
        for (int cell = 2; cell < 12; cell += 2) {
            Edges.raise(x, cell, 79);
        }
        return x;
    }

    private static void reachAtTheEdge() {
        edges.says("behind how many (0 to 20) BEATS");
        edges.due("18", heldForReach(17).reach(0, 6), 18);
        edges.due("20", heldForReach(19).reach(0, 6), 20);
        ShakingCourt x = heldForReach(21);
        edges.due("it shakes at last", x.later(0, 22), 11);
        edges.due("and not ahead", x.later(0, 20), 0);
        edges.due("22", x.reach(0, 6), -1);
        x.beat();
        edges.due("21", x.reach(0, 5), -1);
        edges.due("nor by the other", x.reach(0, 6), -1);
        x.beat();
        edges.due("20, two beats on", x.reach(0, 6), 20);
    }

    private static void calmest() {
        edges.says("CALMEST behind so many (0 to 60) BEATS: the CELL that is not cracked and shakes the least then; of equal ones the first.");
        ShakingCourt x = edges.court("cells 4;fades 0;");
        edges.due("all still", x.calmest(0), 0);
        x.touch(0, 8);
        for (int beats = 0; beats <= 60; beats++) {
            edges.due(beats + " beats", x.calmest(beats), 1 - beats % 2);
        }
        ShakingCourt y = edges.court("cells 3;");
        y.touch(0, 3);
        y.touch(1, 2);
        y.touch(2, 1);
        edges.due("the last one", y.calmest(0), 2);
        y.touch(2, 1);
        edges.due("the first of equal ones", y.calmest(0), 1);
        y.fork(1);
        edges.due("a cracked one is not it", y.calmest(0), 2);

        edges.says("CALMEST; NONE: others, all are cracked.");
        for (int beats : new int[] {-1, 61, 62, Integer.MIN_VALUE, Integer.MAX_VALUE}) {
            edges.due("beats " + beats, y.calmest(beats), -1);
        }
        y.fork(2);
        edges.due("one is left", y.calmest(60), 0);
        y.fork(0);
        edges.due("all are cracked", y.calmest(60), -1);
    }

    private static void lazy() {
        edges.says("LAZY: COURTIERS who do nothing in the BEAT to come (bits).");
        edges.due("nobody", new ShakingCourt().lazy(), 0);
        String six = "courtier a plain at 0 loyal 0;courtier b spoon at 0 loyal 1;courtier c child at 0 loyal 0;"
            + "courtier d maid at 0 loyal 1;courtier e plain at 0 loyal 0;courtier f plain at 0 loyal 1;";
        edges.due("all six", edges.court(six).lazy(), 63);
        edges.due("every other one", edges.court("reads heart;" + six).lazy(), 21);
        edges.due("none", edges.court("reads 1;" + six).lazy(), 0);
        edges.due("what is read is nothing", edges.court("reads 0 - 1;" + six).lazy(), 63);
        ShakingCourt x = edges.shaking("cells 3;fades 0;reads 0;" + six, 20);
        edges.due("but the maid", x.lazy(), 63 - 8);
        ShakingCourt y = edges.shaking("cells 3;fades 0;" + six, 20);
        edges.due("a child by 20", y.lazy(), 0);
        for (int cell = 0; cell < 3; cell++) {
            y.touch(cell, 1);
        }
        edges.due("a child by 21", y.lazy(), 4);
        y.beat();
        edges.due("in the beat to come, whatever was done", y.lazy(), 4);
        ShakingCourt z = edges.court("reads time = 1;" + six);
        edges.due("beat 0", z.lazy(), 63);
        z.beat();
        edges.due("beat 1", z.lazy(), 0);
        z.beat();
        edges.due("beat 2", z.lazy(), 63);
    }

    private static void post() {
        edges.says("POST of a COURTIER: the CELL where his TOTAL of 20 would be the most, were he there now; of equal ones the first.");
        ShakingCourt x = edges.court("cells 5;fades 9;courtier a plain at 3 loyal 0;courtier s spoon at 3 loyal 0;");
        edges.due("all equal", x.post(0), 0);
        x.touch(3, 20);
        edges.due("2 of 2 and 4", x.post(0), 2);
        edges.due("a spoon: 1 of 1, 2, 3, 4", x.post(1), 1);
        x.fork(2);
        edges.due("4 alone", x.post(0), 4);
        edges.due("a spoon: 3 of 3 and 4", x.post(1), 3);
        ShakingCourt y = edges.court("cells 5;fades 9;courtier s spoon at 3 loyal 0;");
        y.touch(1, 20);
        y.fork(2);
        edges.due("a spoon at the last one, the first behind it", y.post(0), 0);
        y.undo();
        y.touch(4, 20);
        // 0 has 20 - 9 from both, 2 and 3 have 1 each.
        edges.due("0 of 0 and 4", y.post(0), 0);

        edges.says("POST; NONE: others.");
        edges.due("one beyond", x.post(2), -1);
        for (int man : Edges.FAR_OFF) {
            edges.due("courtier " + man, x.post(man), -1);
        }
        edges.due("nobody", new ShakingCourt().post(0), -1);
        for (int cell = 0; cell < 5; cell++) {
            x.fork(cell);
        }
        edges.due("all are cracked", x.post(0), 0);
    }

    private static void postInTwentyBeats() {
        edges.says("the CELL where his TOTAL of 20 would be the most");
        String text = "cells 4;fades 0;reads wave * (time = #);courtier a plain at 3 loyal 0;";
        ShakingCourt x = edges.court(text.replace("#", "19"));
        x.touch(1, 8);
        edges.due("by the last beat", x.post(0), 1);
        ShakingCourt y = edges.court(text.replace("#", "20"));
        y.touch(0, 8);
        edges.due("not by the next one", y.post(0), 0);
        y.beat();
        edges.due("a beat on", y.post(0), 1);
    }

    private static void postWhereItIsStill() {
        edges.says("were he there now; of equal ones the first.");
        for (int cells = 3; cells <= 12; cells++) {
            String text = "cells " + cells + ";fades 0;reads not wave;courtier a plain at 1 loyal 0;";
            edges.due("all shake, none is better", edges.shaking(text, 9).post(0), 0);
            ShakingCourt x = edges.shaking(text, 9);
            x.fork(cells - 1);
            edges.due("at a cracked one, the last, nothing shakes", x.post(0), cells - 1);
        }
    }

    private static void rises() {
        edges.says("RISES of a CELL: how often in 20 BEATS it shakes by more than a BEAT ahead.");
        ShakingCourt x = edges.court("cells 4;fades 0;");
        edges.due("none", x.rises(0), 0);
        x.touch(0, 8);
        // Behind beats 2, 4 .. 20, and behind 1, 3 .. 19.
        edges.due("the last beat", x.rises(0), 10);
        edges.due("the first beat", x.rises(1), 10);
        edges.due("equal ones are no rise", constantTill(30, 9).rises(0), 0);
        // It goes up and down but in the 20th beat, or in the 19th one.
        String text = "cells 4;fades (time = #) * 99;";
        ShakingCourt y = edges.court(text.replace("#", "19"));
        y.touch(0, 8);
        edges.due("not in the 20th", y.rises(0), 9);
        edges.due("but in the 19th", y.rises(1), 10);
        ShakingCourt z = edges.court(text.replace("#", "20"));
        z.touch(0, 8);
        edges.due("not in the 21st", z.rises(0), 10);
        edges.due("which is not asked for", z.rises(1), 10);

        edges.says("RISES; NONE: others, it is cracked.");
        edges.due("beyond", x.rises(4), -1);
        for (int cell : Edges.FAR_OFF) {
            edges.due("cell " + cell, x.rises(cell), -1);
        }
        x.fork(1);
        edges.due("cracked", x.rises(1), -1);
    }

    private static void nothingElse() {
        edges.says("(BEATS going by, nothing else being done.)");
        ShakingCourt x = edges.shaking("cells 5;courtier a plain at 0 loyal 4;courtier b maid at 2 loyal 0;", 31);
        x.fork(3);
        x.beat();
        x.feel(1, 1, 9);
        String seen = Edges.state(x);
        x.later(0, 60);
        x.still();
        x.peak(0);
        x.total(0, 60);
        x.nudge(0, 12, 99, 0);
        x.guard(0);
        x.swap();
        x.ways(0);
        x.look(12);
        x.reach(0, 1);
        x.calmest(60);
        x.lazy();
        x.post(0);
        x.rises(0);
        edges.due("all is as ahead", Edges.state(x), seen);
        edges.due("what can be undone", x.count(10), 12);
    }
}
