/** The edges of reigns told and of what is done by hand: Terms, promises 4 to 14, 41 and 42. */
public final class ReignEdgesTest {
    private static final String TWO = "courtier a plain at 1 loyal 2;courtier b maid at 6 loyal 3;";
    private static Edges edges;

    private ReignEdgesTest() { }

    public static void main(String[] args) throws Exception {
        edges = new Edges("ReignEdgesTest");
        linesTold();
        cellsTold();
        changesTold();
        fortyLines();
        touches();
        touchAnswers();
        breaths();
        forks();
        turns();
        turnAnswers();
        changes();
        half();
        faded();
        faintLaws();
        cracksInBeats();
        plainOnes();
        spoons();
        children();
        maids();
        together();
        undone();
        undoAll();
        judgedLines();
        judgedShaking();
        judgedDone();
        shakes();
        courtiers();
        marks();
        marksOfFelt();
        manyCalls();
        counts();
        edges.end();
    }

    private static void linesTold() {
        edges.says("REIGN: any number of   touch N N ;   breathe N ;   fork N ;   turn ;   change NAME NAME ;   beat ;");
        String[] lines = {"touch 0 1;", "breathe 0;", "fork 0;", "turn;", "change a b;", "beat;"};
        ShakingCourt x = edges.court(TWO);
        edges.reign(x, "");
        edges.due("no line", x.count(8), 0);
        edges.reign(x, String.join(" ", lines));
        edges.due("six lines", x.count(8), 6);
        for (String line : lines) {
            edges.reign(x, line);
            edges.due("one line", x.count(8), 1);
            edges.reignFault(TWO, line.substring(0, line.length() - 1) + "|", 1);
            edges.reignFault(TWO, line + "|;", 1);
        }
        String[] wrong = {"touch |;", "touch 0 |;", "touch 0 1 |1;", "touch |a 1;", "breathe |;", "breathe 0 |0;", "breathe |a;",
            "fork |;", "fork 0 |0;", "turn |0;", "beat |1;", "change |;", "change a |;", "change a b |a;", "change |1 a;", "change a |1;",
            "|a;", "|1;", "|cells 3;", "|courtier", "|heat 1;", "|fades 1;", "|reads 1;", "|not", "|maid", "|#"};
        for (String marked : wrong) {
            edges.reignFault(TWO, marked, 1);
        }
        for (String word : "cells courtier at loyal heat fades reads plain spoon child maid not and or wave warm time heart a".split(" ")) {
            edges.reignFault(TWO, "|" + word + ";", 1);
            edges.reignFault(TWO, "beat;|" + word + " 0;", 1);
        }
    }

    private static void cellsTold() {
        edges.says("(a CELL 0 to 11 by 1 to 20; a CELL; a CELL; the bowl; two COURTIERS, not the same)");
        // Whatever the court's cells are: the line can't be, then, but may be told.
        ShakingCourt x = edges.court("cells 3;");
        for (int cell = 0; cell <= 11; cell++) {
            edges.reign(x, "touch " + cell + " 1;breathe " + cell + ";fork " + cell + ";");
        }
        for (int force = 1; force <= 20; force++) {
            edges.reign(x, "touch 11 " + force + ";");
        }
        edges.reignFault("cells 12;", "touch |12 1;", 4);
        edges.reignFault("cells 12;", "touch |9999 1;", 4);
        edges.reignFault("cells 12;", "touch 0 |0;", 4);
        edges.reignFault("cells 12;", "touch 0 |21;", 4);
        edges.reignFault("cells 12;", "touch 0 |9999;", 4);
        edges.reignFault("cells 12;", "breathe |12;", 4);
        edges.reignFault("cells 12;", "breathe |9999;", 4);
        edges.reignFault("cells 12;", "fork |12;", 4);
        edges.reignFault("cells 12;", "fork |9999;", 4);
    }

    private static void changesTold() {
        edges.says("the second COURTIER of change that is the first one");
        String three = TWO + "courtier c spoon at 1 loyal 0;";
        for (String first : new String[] {"a", "b", "c"}) {
            for (String second : new String[] {"a", "b", "c"}) {
                if (first.equals(second)) {
                    edges.reignFault(three, "change " + first + " |" + second + ";", 3);
                } else {
                    edges.reign(edges.court(three), "change " + first + " " + second + ";");
                }
            }
            edges.reignFault(three, "change " + first + " |d;", 2);
            edges.reignFault(three, "change |d " + first + ";", 2);
        }
    }

    private static void fortyLines() {
        edges.says("40 lines at most");
        ShakingCourt x = new ShakingCourt();
        edges.reign(x, "beat;".repeat(39));
        edges.due("39", x.count(8), 39);
        edges.reign(x, "beat;".repeat(40));
        edges.due("40", x.count(8), 40);
        edges.reign(x, "touch 10 10;".repeat(40));
        // The fortieth is judged as any other.
        ShakingCourt y = edges.court("cells 3;");
        edges.reign(y, "turn;".repeat(37) + "touch 0 1;touch 1 1;touch 2 1;");
        edges.due("all shake behind the fortieth", y.judged(1), 39);
        edges.reign(y, "turn;".repeat(37) + "touch 0 1;touch 1 1;touch 3 1;");
        edges.due("the fortieth can't be", y.judged(0), 39);
        for (String line : new String[] {"touch 0 1;", "breathe 0;", "fork 0;", "turn;", "change a b;", "beat;", "touch"}) {
            edges.reignFault(TWO, "beat;".repeat(40) + "|" + line, 5);
        }
        edges.reignFault(TWO, "beat;".repeat(40) + "|;", 1);
        edges.reignFault(TWO, "beat;".repeat(39) + "beat|", 1);
    }

    private static ShakingCourt atShake(int much) {
        ShakingCourt x = edges.court("cells 3;");
        Edges.raise(x, 1, much);
        edges.due("it shakes", x.shake(1), much);
        return x;
    }

    private static void touches() {
        edges.says("TOUCH a CELL that is not cracked: it shakes by so much more, 99 at most.");
        edges.due("0 and 1", atShake(0).touch(1, 1), 1);
        edges.due("0 and 20", atShake(0).touch(1, 20), 20);
        edges.due("78 and 20", atShake(78).touch(1, 20), 98);
        edges.due("79 and 20", atShake(79).touch(1, 20), 99);
        edges.due("80 and 20", atShake(80).touch(1, 20), 99);
        edges.due("98 and 1", atShake(98).touch(1, 1), 99);
        edges.due("98 and 2", atShake(98).touch(1, 2), 99);
        edges.due("99 and 1", atShake(99).touch(1, 1), 99);
        edges.due("99 and 20", atShake(99).touch(1, 20), 99);
        ShakingCourt x = atShake(99);
        x.touch(1, 20);
        edges.due("it is not more inside", x.breathe(1), 96);
        edges.due("nor beside", x.count(4), 96);
    }

    private static void touchAnswers() {
        edges.says("TOUCH: how it shakes then; NONE: others, it can't be.");
        for (int cells = 3; cells <= 12; cells += 3) {
            ShakingCourt x = edges.court("cells " + cells + ";");
            edges.due("the first", x.touch(0, 1), 1);
            edges.due("the last", x.touch(cells - 1, 20), 20);
            edges.due("beyond", x.touch(cells, 1), -1);
            for (int cell : Edges.FAR_OFF) {
                edges.due("cell " + cell, x.touch(cell, 1), -1);
            }
            for (int force : new int[] {0, -1, 21, 100, Integer.MIN_VALUE, Integer.MAX_VALUE}) {
                edges.due("force " + force, x.touch(0, force), -1);
            }
            x.fork(0);
            edges.due("cracked", x.touch(0, 1), -1);
            edges.due("what can't be is not done", x.count(4), 20);
            edges.due("nor can it be undone", x.count(10), 3);
        }
    }

    private static void breaths() {
        edges.says("BREATHE on one: by 3 less, 0 at least.");
        int[] want = {0, 0, 0, 0, 1, 2};
        for (int much = 0; much < want.length; much++) {
            edges.due("breath at " + much, atShake(much).breathe(1), want[much]);
        }
        edges.due("breath at 99", atShake(99).breathe(1), 96);

        edges.says("BREATHE: how it shakes then (a cracked one: 0); NONE: others.");
        ShakingCourt x = edges.court("cells 5;");
        x.touch(0, 9);
        edges.due("the first", x.breathe(0), 6);
        edges.due("the last", x.breathe(4), 0);
        edges.due("beyond", x.breathe(5), -1);
        for (int cell : Edges.FAR_OFF) {
            edges.due("cell " + cell, x.breathe(cell), -1);
        }
        edges.due("three were done", x.count(10), 3);
        x.fork(0);
        edges.due("a cracked one", x.breathe(0), 0);
        edges.due("it is cracked still", x.count(5), 1);
        edges.due("a breath on it was done", x.count(10), 5);
    }

    private static void forks() {
        edges.says("FORK one that is not cracked: it is, and shakes no more.");
        for (int much : new int[] {0, 1, 99}) {
            ShakingCourt x = atShake(much);
            edges.due("fork at " + much, x.fork(1), true);
            edges.due("shakes no more", x.count(4), 0);
            edges.due("cracked", x.count(5), 2);
        }

        edges.says("FORK: true; false: others, it is cracked.");
        ShakingCourt x = edges.court("cells 12;");
        for (int cell = 0; cell < 12; cell++) {
            edges.due("fork " + cell, x.fork(cell), true);
            edges.due("fork again " + cell, x.fork(cell), false);
            edges.due("cracks", x.count(5), (2 << cell) - 1);
        }
        ShakingCourt y = edges.court("cells 3;");
        edges.due("beyond", y.fork(3), false);
        for (int cell : Edges.FAR_OFF) {
            edges.due("cell " + cell, y.fork(cell), false);
        }
        edges.due("nothing is cracked", y.count(5), 0);
        edges.due("nothing can be undone", y.count(10), 0);
    }

    private static void turns() {
        edges.says("(the first one has what the last one had, the second one what the last but one had, and so on), cracks too");
        for (int cells = 3; cells <= 12; cells++) {
            ShakingCourt x = edges.court("cells " + cells + ";courtier a plain at 0 loyal 0;");
            for (int cell = 0; cell < cells; cell++) {
                x.touch(cell, cell + 1);
            }
            edges.due("another way", x.turn(), true);
            for (int cell = 0; cell < cells; cell++) {
                edges.due("cell " + cell + " of " + cells, x.shake(cell), cells - cell);
            }
            edges.due("courtiers stay", x.courtier(0, 1), 0);
            x.turn();
            x.fork(0);
            x.fork(1);
            x.turn();
            edges.due("cracks of " + cells, x.count(5), 3 << cells - 2);
            edges.due("a crack at the first one's other side", x.shake(cells - 1), -1);
        }
    }

    private static void turnAnswers() {
        edges.says("TURN: whether any CELL is another way then.");
        for (int cells = 3; cells <= 12; cells++) {
            edges.due("all still", edges.court("cells " + cells + ";").turn(), false);
            for (int cell = 0; cell < cells; cell++) {
                ShakingCourt x = edges.court("cells " + cells + ";");
                x.touch(cell, 1);
                boolean middle = 2 * cell + 1 == cells;
                edges.due("one shakes", x.turn(), !middle);
                ShakingCourt y = edges.court("cells " + cells + ";");
                y.fork(cell);
                edges.due("one is cracked, all are still", y.turn(), !middle);
                y.fork(cell);
                edges.due("both sides are cracked", y.turn(), false);
            }
        }
        ShakingCourt z = edges.court("cells 4;");
        z.touch(0, 5);
        z.touch(3, 6);
        edges.due("by 1", z.turn(), true);
        z.touch(3, 1);
        edges.due("the same", z.turn(), false);
        edges.due("one that changes nothing can be undone, too", z.count(10), 5);
    }

    private static void changes() {
        edges.says("CHANGE: true; false: others, the same.");
        ShakingCourt x = edges.court(TWO + "courtier c plain at 1 loyal 0;");
        edges.due("the first and the last", x.change(0, 2), true);
        edges.due("the last and the first", x.change(2, 0), true);
        edges.due("two", x.change(0, 1), true);
        edges.due("the one", x.courtier(0, 1), 6);
        edges.due("the other one", x.courtier(1, 1), 1);
        for (int i = 0; i < 3; i++) {
            edges.due("the same " + i, x.change(i, i), false);
            edges.due("beyond", x.change(i, 3), false);
            edges.due("beyond at first", x.change(3, i), false);
            for (int other : Edges.FAR_OFF) {
                edges.due("other " + other, x.change(i, other), false);
                edges.due("first " + other, x.change(other, i), false);
            }
        }
        edges.due("the same beyond", x.change(3, 3), false);
        edges.due("three were done", x.count(10), 3);
        edges.due("one alone", edges.court("courtier a plain at 1 loyal 2;").change(0, 0), false);
        edges.due("nobody", new ShakingCourt().change(0, 1), false);
    }

    private static int comesTo(int left, int right, String fades) {
        ShakingCourt x = edges.court("cells 4;fades " + fades + ";");
        Edges.raise(x, 0, left);
        Edges.raise(x, 2, right);
        x.beat();
        edges.due("both between get it", x.shake(3), x.shake(1));
        return x.shake(1);
    }

    private static void half() {
        edges.says("what comes to a CELL is the half, cut, of what both beside it shake together");
        edges.due("0 and 0", comesTo(0, 0, "0"), 0);
        edges.due("1 and 0", comesTo(1, 0, "0"), 0);
        edges.due("1 and 1", comesTo(1, 1, "0"), 1);
        edges.due("2 and 0", comesTo(0, 2, "0"), 1);
        edges.due("2 and 1", comesTo(2, 1, "0"), 1);
        edges.due("99 and 98", comesTo(99, 98, "0"), 98);
        edges.due("99 and 99", comesTo(99, 99, "0"), 99);
        ShakingCourt x = edges.court("cells 3;fades 0;");
        Edges.raise(x, 0, 40);
        Edges.raise(x, 1, 20);
        x.beat();
        // All by what was ahead, not by what comes.
        edges.says("(all by what was ahead; a cracked one: 0)");
        edges.due("first", x.shake(0), 10);
        edges.due("second", x.shake(1), 20);
        edges.due("third", x.shake(2), 30);
    }

    private static void faded() {
        edges.says("each that is not cracked shakes by that, less the E of fades (0 to 99), 0 to 99");
        edges.due("less one less", comesTo(10, 10, "9"), 1);
        edges.due("less as much", comesTo(10, 10, "10"), 0);
        edges.due("less more", comesTo(10, 10, "11"), 0);
        edges.due("less 0", comesTo(10, 10, "0"), 10);
        edges.due("less less than 0", comesTo(10, 10, "0 - 1"), 10);
        edges.due("less far less", comesTo(10, 10, "0 - 9999 * 9999"), 10);
        edges.due("98", comesTo(99, 99, "98"), 1);
        edges.due("99", comesTo(99, 99, "99"), 0);
        edges.due("100", comesTo(99, 99, "100"), 0);
        edges.due("9999", comesTo(99, 99, "9999"), 0);
        // 4294967295 is -1, which is 0.
        edges.due("wrapped", comesTo(99, 99, "4096 * 4096 * 256 - 1"), 99);
    }

    private static void faintLaws() {
        edges.says("of fades what comes to a CELL");
        edges.due("by wave", comesTo(20, 20, "wave - 1"), 1);
        edges.due("by wave twice", comesTo(20, 20, "wave * 2"), 0);
        edges.due("by a test of wave", comesTo(20, 20, "(wave = 20) * 5"), 15);
        edges.due("one less", comesTo(20, 19, "(wave = 20) * 5"), 19);
        // Of nothing nothing is left, even where less than nothing fades.
        edges.due("of nothing", comesTo(0, 0, "0 - 7"), 0);
    }

    private static void cracksInBeats() {
        edges.says("a cracked one: 0");
        ShakingCourt x = edges.shaking("cells 4;fades 0;", 8);
        x.fork(1);
        x.beat();
        edges.due("cracked", x.count(5), 2);
        edges.due("beside it, half", x.shake(0), 4);
        edges.due("on the other side, half", x.shake(2), 4);
        edges.due("behind", x.shake(3), 8);
        edges.due("all", x.count(4), 16);
        ShakingCourt y = edges.shaking("cells 3;fades 0;", 9);
        y.fork(0);
        y.fork(1);
        y.fork(2);
        edges.due("a beat of cracks alone", y.beat(), 0);
        edges.due("nothing shakes", y.count(6), 0);
        edges.due("it is the next beat", y.count(2), 1);
    }

    private static int readBy(String kind, String reads, int much) {
        ShakingCourt x = edges.shaking("cells 3;fades 0;reads " + reads + ";courtier a " + kind + " at 2 loyal 5;", much);
        int all = x.beat();
        edges.due("he did it", x.courtier(0, 3), all);
        edges.due("again as much", x.beat(), all);
        edges.due("he did both", x.courtier(0, 3), 2 * all);
        return all;
    }

    private static void plainOnes() {
        edges.says("a plain one the E of reads (0 to 99)");
        edges.due("less than 0", readBy("plain", "0 - 1", 9), 0);
        edges.due("far less", readBy("plain", "0 - 9999 * 9999", 9), 0);
        edges.due("0", readBy("plain", "0", 9), 0);
        edges.due("98", readBy("plain", "98", 9), 98);
        edges.due("99", readBy("plain", "99", 9), 99);
        edges.due("100", readBy("plain", "100", 9), 99);
        edges.due("far more", readBy("plain", "9999 * 9999", 9), 99);
        edges.due("his cell", readBy("plain", "wave", 9), 9);
        edges.due("at 99", readBy("plain", "wave", 99), 99);
    }

    private static void spoons() {
        edges.says("a spoon that of the CELL behind his (of the last one the first), too, added");
        for (int cells = 3; cells <= 12; cells++) {
            for (int at = 0; at < cells; at++) {
                ShakingCourt x = edges.court("cells " + cells + ";fades 0;reads wave + 1;courtier a spoon at " + at + " loyal 0;");
                // Only the cell behind his shakes, by 7, once the beat has gone by.
                int behind = (at + 1) % cells;
                Edges.raise(x, (behind + 1) % cells, 14);
                int own = cells == 3 ? 7 : 0;
                edges.due("spoon at " + at + " of " + cells, x.beat(), 7 + 1 + own + 1);
            }
        }
        edges.due("each within 99", readBy("spoon", "100", 9), 198);
        edges.due("at 99", readBy("spoon", "wave", 99), 198);
        edges.due("less than 0", readBy("spoon", "0 - wave", 9), 0);
        ShakingCourt x = edges.court("cells 4;fades 0;reads wave * 9 - 30;courtier a spoon at 0 loyal 0;");
        Edges.raise(x, 0, 20);
        // His cell has 0, of which -30 is nothing; the one behind has 10, of which comes 60.
        edges.due("what is less than 0 takes nothing away", x.beat(), 60);
        ShakingCourt y = edges.shaking("cells 3;fades 0;reads wave + 1;courtier a spoon at 2 loyal 0;", 8);
        y.fork(0);
        // The first one is cracked: of it comes 1, and 4 + 1 of his own.
        edges.due("a cracked one behind", y.beat(), 6);
    }

    private static void children() {
        edges.says("a child nothing if his CELL shakes by more than 20, else as a plain one");
        edges.due("0", readBy("child", "wave + 3", 0), 3);
        edges.due("19", readBy("child", "wave + 3", 19), 22);
        edges.due("20", readBy("child", "wave + 3", 20), 23);
        edges.due("21", readBy("child", "wave + 3", 21), 0);
        edges.due("99", readBy("child", "wave + 3", 99), 0);
        edges.due("within 99", readBy("child", "100", 20), 99);
        edges.due("within 0", readBy("child", "0 - 1", 20), 0);
    }

    private static void maids() {
        edges.says("a maid the E of reads, and 1 more if his CELL shakes at all: he DOES as much more.");
        edges.due("still", readBy("maid", "wave + 3", 0), 3);
        edges.due("by 1", readBy("maid", "wave + 3", 1), 5);
        edges.due("by 99", readBy("maid", "wave", 99), 100);
        edges.due("nothing read", readBy("maid", "0", 1), 1);
        edges.due("less than 0 read", readBy("maid", "0 - 5", 1), 1);
        edges.due("100 read", readBy("maid", "100", 1), 100);
        edges.due("nothing at all", readBy("maid", "0", 0), 0);
        ShakingCourt x = edges.shaking("cells 3;fades 0;courtier a maid at 1 loyal 0;", 8);
        x.fork(1);
        edges.due("at a cracked one", x.beat(), 0);
    }

    private static void together() {
        edges.says("BEAT: what all do by it, together.");
        edges.due("nobody", new ShakingCourt().beat(), 0);
        ShakingCourt x = edges.shaking("cells 3;fades 0;reads wave;courtier a plain at 0 loyal 0;courtier b spoon at 1 loyal 0;"
            + "courtier c child at 2 loyal 0;courtier d maid at 0 loyal 0;courtier e spoon at 2 loyal 0;courtier f plain at 0 loyal 0;", 20);
        edges.due("six", x.beat(), 20 + 40 + 20 + 21 + 40 + 20);
        edges.due("only by this one", x.beat(), 161);
        edges.due("all", x.count(7), 322);

        edges.says("It is the next beat.");
        edges.due("beat", x.count(2), 2);
        edges.due("can be undone", x.undo(), true);
        edges.due("beat undone", x.count(2), 1);
    }

    private static void undone() {
        edges.says("UNDO: all of these, the last 16, one by one.");
        for (int many = 14; many <= 18; many++) {
            ShakingCourt x = edges.court("cells 3;");
            for (int i = 0; i < many; i++) {
                x.touch(0, 1);
            }
            edges.due(many + " done", x.count(10), Math.min(16, many));
            for (int i = 0; i < Math.min(16, many); i++) {
                edges.due("undo", x.undo(), true);
                edges.due("one by one", x.shake(0), many - i - 1);
                edges.due("left", x.count(10), Math.min(16, many) - i - 1);
            }
            edges.due("no more", x.undo(), false);
            edges.due("all stays", x.shake(0), Math.max(0, many - 16));
            x.touch(0, 1);
            edges.due("one again", x.count(10), 1);
        }
        // Round and round: what is kept is always the last.
        ShakingCourt y = edges.court("cells 3;");
        for (int i = 1; i <= 50; i++) {
            y.touch(0, 1);
            if (i % 3 == 0) {
                y.undo();
            }
        }
        edges.due("16 at last", y.count(10), 16);
        int shakes = y.shake(0);
        for (int i = 1; i <= 16; i++) {
            y.undo();
            edges.due("step " + i, y.shake(0), shakes - i);
        }

        edges.says("UNDO: true; false: nothing can be.");
        edges.due("no more than 16", y.undo(), false);
        edges.due("a new object", new ShakingCourt().undo(), false);
    }

    private static void undoAll() {
        edges.says("UNDO: all of these");
        ShakingCourt x = edges.shaking("cells 5;" + TWO, 9);
        x.touch(0, 3);
        x.beat();
        x.fork(3);
        String[] seen = new String[7];
        for (int act = 0; act < 6; act++) {
            seen[act] = Edges.state(x);
            switch (act) {
                case 0: x.touch(0, 1); break;
                case 1: x.breathe(0); break;
                case 2: x.fork(0); break;
                case 3: x.turn(); break;
                case 4: x.change(0, 1); break;
                default: x.beat(); break;
            }
        }
        for (int act = 5; act >= 0; act--) {
            edges.due("undo", x.undo(), true);
            edges.due("as ahead of act " + act, Edges.state(x), seen[act]);
        }
        ShakingCourt six = edges.shaking("cells 12;reads 1 + heart;courtier a plain at 0 loyal 0;courtier b plain at 1 loyal 1;"
            + "courtier c plain at 2 loyal 2;courtier d plain at 3 loyal 3;courtier e plain at 4 loyal 4;courtier f plain at 5 loyal 5;", 1);
        six.beat();
        String ahead = Edges.state(six);
        edges.due("what six do", six.beat(), 21);
        six.change(0, 5);
        six.fork(11);
        for (int i = 0; i < 3; i++) {
            edges.due("undo", six.undo(), true);
        }
        edges.due("all six, all twelve are as ahead", Edges.state(six), ahead);
        // What is told or felt is none of these.
        Check.tellReign(x, "beat;");
        x.feel(0, 0, 0);
        x.mark(1, false);
        int steps = x.count(10);
        x.undo();
        edges.due("one step", x.count(10), steps - 1);
        edges.due("the reign stays", x.count(8), 1);
        edges.due("what is felt stays", x.count(9), 1);
        edges.due("the mark stays", x.mark(1, true), true);
    }

    private static void judge(String court, String text, int wrong, int shaking, int done) {
        ShakingCourt x = edges.court(court);
        edges.reign(x, text);
        edges.due("can't be: " + text, x.judged(0), wrong);
        edges.due("all shake: " + text, x.judged(1), shaking);
        edges.due("done: " + text, x.judged(2), done);
    }

    private static void judgedLines() {
        edges.says("the first line (from 0) that can't be (touch, fork of one that is cracked, all of a CELL beyond the last one;"
            + " the rest always can; lines that can't be are left out)");
        for (int cells = 3; cells < 12; cells++) {
            for (String act : new String[] {"touch # 1;", "breathe #;", "fork #;"}) {
                String last = act.replace("#", String.valueOf(cells - 1));
                String beyond = act.replace("#", String.valueOf(cells));
                judge("cells " + cells + ";", last, -1, -1, 0);
                judge("cells " + cells + ";", beyond, 0, -1, 0);
                judge("cells " + cells + ";", last.replace("fork", "breathe") + beyond + beyond, 1, -1, 0);
            }
        }
        judge("cells 12;", "touch 11 1;breathe 11;fork 11;", -1, -1, 0);
        judge("cells 3;", "fork 0;touch 0 1;", 1, -1, 0);
        judge("cells 3;", "fork 0;fork 0;", 1, -1, 0);
        judge("cells 3;", "fork 0;breathe 0;", -1, -1, 0);
        judge("cells 3;", "fork 0;turn;touch 0 1;fork 0;", -1, -1, 0);
        judge("cells 3;", "fork 0;turn;touch 2 1;", 2, -1, 0);
        judge(TWO, "turn;change a b;change b a;beat;", -1, -1, 0);
        judge("cells 3;", "beat;".repeat(39) + "fork 3;", 39, -1, 0);
        judge("cells 3;", "", -1, -1, 0);
        // The one that can't be changes nothing, but what is behind it does.
        judge("cells 3;fades 0;courtier a plain at 0 loyal 0;", "touch 3 20;touch 1 8;beat;", 0, -1, 4);

        edges.says("JUDGED: the REIGN from the begin");
        ShakingCourt x = edges.court("cells 3;fades 0;courtier a plain at 0 loyal 0;courtier b plain at 2 loyal 0;reads wave * (1 + (time < 1));");
        edges.reign(x, "touch 2 8;beat;fork 2;fork 0;");
        for (int i = 0; i < 4; i++) {
            edges.due("nothing can't be", x.judged(0), -1);
            edges.due("what is done by hand does not matter, all shake", x.judged(1), 2);
            edges.due("what is done by hand does not matter, done", x.judged(2), 8);
            x.change(0, 1);
            x.fork(i);
            x.touch(1, 20);
            x.beat();
        }
    }

    private static void judgedShaking() {
        edges.says("the first line behind which some CELL is not cracked, and all such shake");
        judge("cells 3;", "touch 0 1;touch 1 1;touch 2 1;", -1, 2, 0);
        judge("cells 3;", "touch 0 1;touch 1 1;", -1, -1, 0);
        judge("cells 3;", "touch 0 1;touch 1 1;fork 2;", -1, 2, 0);
        judge("cells 3;", "fork 0;fork 1;touch 2 1;", -1, 2, 0);
        judge("cells 3;", "fork 0;fork 1;fork 2;", -1, -1, 0);
        judge("cells 3;", "fork 0;fork 1;fork 2;beat;turn;", -1, -1, 0);
        judge("cells 3;", "touch 2 1;fork 0;fork 1;fork 2;", -1, 2, 0);
        judge("cells 3;", "touch 0 1;touch 1 1;touch 2 1;breathe 2;touch 2 1;", -1, 2, 0);
        judge("cells 3;", "touch 0 1;touch 1 1;touch 3 1;touch 2 1;", 2, 3, 0);
        judge("cells 3;fades 0;", "touch 0 2;touch 1 2;beat;", -1, 2, 0);
        judge("cells 12;", "touch 0 1;touch 1 1;touch 2 1;touch 3 1;touch 4 1;touch 5 1;touch 6 1;touch 7 1;touch 8 1;touch 9 1;"
            + "touch 10 1;touch 11 1;", -1, 11, 0);
    }

    private static void judgedDone() {
        edges.says("what all have DONE at last");
        judge("cells 3;fades 0;" + TWO, "", -1, -1, 0);
        judge("cells 3;fades 0;" + TWO, "touch 0 8;beat;", -1, -1, 4 + 5);
        judge("cells 3;fades 0;" + TWO, "touch 0 8;change a b;beat;", -1, -1, 4 + 5);
        judge("cells 3;fades 0;reads 99;courtier a plain at 0 loyal 0;", "beat;".repeat(40), -1, -1, 3960);

        edges.says("JUDGED, what 0, 1: lines (NONE: none), 2: DONE; -2: others.");
        ShakingCourt x = edges.court("cells 3;" + TWO);
        for (int what : new int[] {-1, -2, 3, 4, 32, Integer.MIN_VALUE, Integer.MAX_VALUE}) {
            edges.due("what " + what, x.judged(what), -2);
        }
        for (int what = 0; what < 3; what++) {
            edges.due("no reign, what " + what, x.judged(what), what == 2 ? 0 : -1);
        }
        edges.reign(x, "touch 0 20;fork 1;beat;");
        String seen = Edges.seen(x);
        x.judged(2);
        edges.due("all is as ahead", Edges.seen(x), seen);
        // What was cracked in the judging is not cracked in what is asked next.
        edges.reign(x, "fork 0;fork 1;fork 2;");
        x.judged(0);
        edges.due("the least touch, of the first", x.nudge(0, 0, 1, 0), 1);
        x.judged(0);
        edges.due("a fork in the first", x.guard(0), 0);
        x.judged(0);
        edges.due("ways", x.ways(0), 60);
        x.judged(0);
        edges.due("the first parts them", x.look(0), 0);
        x.judged(0);
        edges.due("the calmest", x.calmest(0), 0);
        x.judged(0);
        edges.due("reached", x.reach(0, 1), 1);
    }

    private static void shakes() {
        edges.says("How a CELL shakes now; NONE: others, it is cracked.");
        ShakingCourt x = edges.court("cells 5;");
        x.touch(0, 4);
        edges.due("the first", x.shake(0), 4);
        edges.due("the last", x.shake(4), 0);
        edges.due("beyond", x.shake(5), -1);
        for (int cell : Edges.FAR_OFF) {
            edges.due("cell " + cell, x.shake(cell), -1);
        }
        x.fork(0);
        edges.due("cracked", x.shake(0), -1);
        edges.due("still, not cracked", x.shake(1), 0);
    }

    private static void courtiers() {
        edges.says("Of a COURTIER, what 0: KIND (0 plain, 1 spoon, 2 child, 3 maid), 1: his CELL, 2: loyal, 3: DONE; -2: others.");
        ShakingCourt x = edges.court("cells 12;reads 9;courtier a maid at 11 loyal 0;courtier b plain at 0 loyal 9;");
        x.beat();
        int[][] want = {{3, 11, 0, 9}, {0, 0, 9, 9}};
        for (int i = 0; i < 2; i++) {
            for (int what = 0; what < 4; what++) {
                edges.due("courtier " + i + ", what " + what, x.courtier(i, what), want[i][what]);
            }
            edges.due("what below", x.courtier(i, -1), -2);
            edges.due("what beyond", x.courtier(i, 4), -2);
            edges.due("what far below", x.courtier(i, Integer.MIN_VALUE), -2);
            edges.due("what far beyond", x.courtier(i, Integer.MAX_VALUE), -2);
        }
        edges.due("one beyond", x.courtier(2, 0), -2);
        for (int man : Edges.FAR_OFF) {
            edges.due("courtier " + man, x.courtier(man, 1), -2);
        }
    }

    private static void marks() {
        edges.says("A MARK is laid (back: gone back to): true; false: none such, nothing is on it (back).");
        ShakingCourt x = edges.court("cells 4;" + TWO);
        for (int mark : new int[] {-1, 4, 5, 32, 36, Integer.MIN_VALUE, Integer.MAX_VALUE}) {
            edges.due("none such " + mark, x.mark(mark, false), false);
            edges.due("none such, back " + mark, x.mark(mark, true), false);
        }
        for (int mark = 0; mark < 4; mark++) {
            edges.due("nothing is on " + mark, x.mark(mark, true), false);
            x.touch(mark, 5);
            edges.due("laid " + mark, x.mark(mark, false), true);
        }
        for (int mark = 3; mark >= 0; mark--) {
            x.beat();
            edges.due("back to " + mark, x.mark(mark, true), true);
            edges.due("as it was", x.count(4), 5 * (mark + 1));
            edges.due("its beat", x.count(2), 0);
        }
        edges.due("back again, as often as one likes", x.mark(3, true), true);
        edges.due("all of it", x.count(4), 20);

        edges.says("MARKS 0 to 3 hold all that UNDO brings back, what is FELT (nothing can be undone when one is gone back to).");
        ShakingCourt y = edges.shaking("cells 5;" + TWO, 9);
        y.fork(2);
        y.change(0, 1);
        y.beat();
        y.feel(0, 0, 9);
        String seen = Edges.state(y);
        int steps = y.count(10);
        y.mark(1, false);
        edges.due("laying leaves what can be undone", y.count(10), steps);
        edges.due("and all else", Edges.state(y), seen);
        y.touch(0, 20);
        y.turn();
        y.fork(0);
        y.change(1, 0);
        y.beat();
        y.feel(3, 1, 2);
        edges.due("back", y.mark(1, true), true);
        edges.due("nothing can be undone", y.count(10), 0);
        edges.due("undo", y.undo(), false);
        edges.due("all is as laid", Edges.state(y), seen);
        // What comes behind can be undone, down to the mark.
        y.touch(0, 1);
        edges.due("one step", y.undo(), true);
        edges.due("no further", y.undo(), false);
        edges.due("as laid again", Edges.state(y), seen);
    }

    private static void marksOfFelt() {
        edges.says("MARKS 0 to 3 hold all that UNDO brings back, what is FELT");
        ShakingCourt x = edges.court("cells 5;fades 0;");
        x.mark(0, false);
        edges.due("felt", x.feel(1, 0, 7), true);
        x.mark(1, false);
        x.mark(0, true);
        edges.due("nothing felt", x.count(9), 0);
        edges.due("all ways", x.ways(0), 100);
        // The same number is felt, but another cell, another beat, another shake.
        edges.due("felt, something else", x.feel(3, 1, 10), true);
        x.mark(2, false);
        edges.due("ways of that", x.ways(1), 20);
        x.mark(1, true);
        edges.due("one is felt", x.count(9), 1);
        edges.due("how many ways", x.ways(0), 1);
        edges.due("cells of the first", x.ways(1), 2);
        edges.due("forces of the first", x.ways(2), 7);
        x.mark(2, true);
        edges.due("cells of the second", x.ways(1), 20);
        edges.due("forces of the second", x.ways(2), 20);
        // All eight come back, the eighth, too.
        ShakingCourt y = edges.court("cells 5;fades 0;");
        y.mark(3, false);
        for (int i = 0; i < 7; i++) {
            y.feel(4, 0, 0);
        }
        y.feel(2, 1, 10);
        y.mark(0, false);
        edges.due("ways of eight", y.ways(1), 10);
        y.mark(3, true);
        for (int i = 0; i < 8; i++) {
            y.feel(0, 0, 5);
        }
        edges.due("ways of eight others", y.ways(1), 1);
        y.mark(0, true);
        edges.due("eight again", y.count(9), 8);
        edges.due("ways of the first eight", y.ways(1), 10);
        edges.due("how many", y.ways(0), 2);
        // What is felt behind does not come on the mark.
        for (int i = 0; i < 7; i++) {
            edges.due("felt", x.feel(0, 0, 99), true);
        }
        edges.due("no more", x.feel(0, 0, 99), false);
        edges.due("no way", x.ways(0), 0);
        x.mark(2, true);
        edges.due("one again", x.count(9), 1);
        edges.due("cells again", x.ways(1), 20);
    }

    private static void manyCalls() {
        edges.says("An object is used for at most 512 calls after it has been made");
        ShakingCourt x = edges.court("cells 3;heat 1 2 3 4 5;fades (time < 491) * 99;reads 99 * (time < 490);courtier a spoon at 0 loyal 0;");
        boolean all = true;
        for (int beat = 0; beat < 490; beat++) {
            all &= x.beat() == 198;
        }
        edges.due("each beat", all, true);
        edges.due("beats", x.count(2), 490);
        edges.due("heat", x.count(3), 1);
        edges.due("done", x.count(7), 490 * 198);
        x.touch(0, 20);
        edges.due("the law of beat 490", x.later(1, 1), 0);
        edges.due("nothing is done by it", x.beat(), 0);
        x.touch(0, 20);
        edges.due("the law of beat 491", x.later(1, 1), 10);
        edges.due("nothing more is done", x.total(0, 60), 0);
    }

    private static void counts() {
        edges.says("What 0: CELLS, 1: COURTIERS, 2: the beat, 3: its heat, 4: all shakes, together, 5: CELLS that are cracked, as bits,"
            + " 6: CELLS that shake, as bits, 7: what all have DONE, 8: lines of the REIGN, 9: FELT, 10: what can be undone,"
            + " 11: signs on the TAPE. NONE for another what.");
        ShakingCourt x = edges.shaking("cells 12;heat 0 4;fades 0;reads 1;" + TWO, 99);
        edges.due("all shakes", x.count(4), 1188);
        edges.due("all shake", x.count(6), 4095);
        x.beat();
        edges.due("its heat", x.count(3), 4);
        edges.due("done", x.count(7), 3);
        for (int cell = 0; cell < 12; cell++) {
            x.fork(cell);
        }
        edges.due("all are cracked", x.count(5), 4095);
        edges.due("none shakes", x.count(6), 0);
        edges.due("no shakes", x.count(4), 0);
        edges.due("what can be undone", x.count(10), 16);
        for (int what : new int[] {-1, -2, 12, 13, 32, Integer.MIN_VALUE, Integer.MAX_VALUE}) {
            edges.due("what " + what, x.count(what), -1);
        }
        Check.write(x, "beat");
        edges.due("signs", x.count(11), 4);
        edges.due("a fault", x.reign(), 1 + 16 * 4);
        edges.due("no signs", x.count(11), 0);
    }
}
