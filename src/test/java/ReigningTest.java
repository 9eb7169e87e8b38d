/** Promises 5 to 14, 41 and 42: what is done by hand, undone, marked, told and judged. */
public final class ReigningTest {
    private static final Check CHECK = new Check("ReigningTest");

    private ReigningTest() { }

    public static void main(String[] args) {
        promise5And7();
        promise6And12();
        promise8();
        promise9();
        promise10();
        promise11();
        promise12Fades();
        promise12Children();
        promise13();
        promise14();
        promise41();
        promise42();
        CHECK.end();
    }

    private static void promise5And7() {
        ShakingCourt x = CHECK.courtOf("cells 3;");
        CHECK.due("touch", x.touch(2, 20), 20);
        CHECK.due("more", x.touch(2, 1), 21);
        CHECK.due("shake", x.shake(2), 21);
        CHECK.due("another", x.shake(1), 0);
        for (int i = 0; i < 3; i++) {
            x.touch(2, 20);
        }
        CHECK.due("81 and 20", x.touch(2, 20), 99);
        CHECK.due("99 and 1", x.touch(2, 1), 99);
        CHECK.due("all count", x.count(10), 7);
        CHECK.due("no force", x.touch(0, 0), -1);
        CHECK.due("too much", x.touch(0, 21), -1);
        CHECK.due("below", x.touch(-1, 1), -1);
        CHECK.due("beyond", x.touch(3, 1), -1);
        CHECK.due("shake below", x.shake(-1), -1);
        CHECK.due("shake beyond", x.shake(3), -1);
        x.fork(0);
        CHECK.due("cracked", x.touch(0, 1), -1);
        CHECK.due("shake of a cracked one", x.shake(0), -1);
        CHECK.due("wrong ones don't count", x.count(10), 8);
    }

    private static void promise6And12() {
        ShakingCourt x = CHECK.courtOf("cells 4; fades 0; courtier p plain at 1 loyal 2; courtier s spoon at 3 loyal 3;"
            + "courtier c child at 1 loyal 4; courtier m maid at 3 loyal 5; courtier n maid at 0 loyal 5;"
            + "courtier t spoon at 0 loyal 0;");
        x.touch(0, 20);
        // Cells: 0 10 0 10; the spoon at the last cell has the first one behind his.
        CHECK.due("all do", x.beat(), 10 + 10 + 10 + 11 + 0 + 10);
        int[] done = {10, 10, 10, 11, 0, 10};
        int[] kinds = {0, 1, 2, 3, 3, 1};
        int[] places = {1, 3, 1, 3, 0, 0};
        int[] loyal = {2, 3, 4, 5, 5, 0};
        for (int i = 0; i < 6; i++) {
            CHECK.due("kind " + i, x.courtier(i, 0), kinds[i]);
            CHECK.due("place " + i, x.courtier(i, 1), places[i]);
            CHECK.due("loyal " + i, x.courtier(i, 2), loyal[i]);
            CHECK.due("done " + i, x.courtier(i, 3), done[i]);
        }
        // Cells: 10 0 10 0.
        CHECK.due("the next beat", x.beat(), 0 + 10 + 0 + 0 + 11 + 10);
        CHECK.due("done more", x.courtier(4, 3), 11);
        CHECK.due("beats", x.count(2), 2);
        CHECK.due("what below", x.courtier(0, -1), -2);
        CHECK.due("what beyond", x.courtier(0, 4), -2);
        CHECK.due("courtier below", x.courtier(-1, 0), -2);
        CHECK.due("courtier beyond", x.courtier(6, 0), -2);
    }

    private static void promise8() {
        ShakingCourt x = new ShakingCourt();
        x.touch(7, 5);
        CHECK.due("breathe", x.breathe(7), 2);
        CHECK.due("again", x.breathe(7), 0);
        CHECK.due("on nothing", x.breathe(7), 0);
        CHECK.due("below", x.breathe(-1), -1);
        CHECK.due("beyond", x.breathe(8), -1);
        x.fork(7);
        CHECK.due("a cracked one", x.breathe(7), 0);
        CHECK.due("it stays cracked", x.shake(7), -1);
        CHECK.due("all count", x.count(10), 6);
    }

    private static void promise9() {
        ShakingCourt x = CHECK.courtOf("cells 5; fades 0;");
        x.touch(1, 20);
        x.touch(2, 7);
        CHECK.due("fork", x.fork(2), true);
        CHECK.due("again", x.fork(2), false);
        CHECK.due("below", x.fork(-1), false);
        CHECK.due("beyond", x.fork(5), false);
        CHECK.due("shakes no more", x.count(4), 20);
        CHECK.due("cracks", x.count(5), 4);
        x.beat();
        CHECK.due("a cracked one passes nothing on", x.count(6), 1);
        CHECK.due("nor shakes", x.shake(2), -1);
        CHECK.due("the other way", x.shake(0), 10);
    }

    private static void promise10() {
        ShakingCourt x = CHECK.courtOf("cells 5; courtier a plain at 0 loyal 0;");
        CHECK.due("all still", x.turn(), false);
        x.touch(2, 9);
        CHECK.due("the middle one", x.turn(), false);
        x.touch(0, 5);
        CHECK.due("another way", x.turn(), true);
        CHECK.due("last one", x.shake(4), 5);
        CHECK.due("first one", x.shake(0), 0);
        x.touch(0, 5);
        CHECK.due("the same both ways", x.turn(), false);
        x.fork(1);
        CHECK.due("a crack", x.turn(), true);
        CHECK.due("cracks turn", x.count(5), 8);
        CHECK.due("courtiers don't", x.courtier(0, 1), 0);
        CHECK.due("all count", x.count(10), 9);
        x.fork(0);
        x.turn();
        CHECK.due("the first crack turns", x.count(5), 2 + 16);
    }

    private static void promise11() {
        ShakingCourt x = CHECK.courtOf("courtier a plain at 1 loyal 2; courtier b maid at 6 loyal 3; courtier c plain at 1 loyal 0;");
        CHECK.due("change", x.change(0, 1), true);
        CHECK.due("a", x.courtier(0, 1), 6);
        CHECK.due("b", x.courtier(1, 1), 1);
        CHECK.due("loyal stays", x.courtier(0, 2), 2);
        CHECK.due("kind stays", x.courtier(1, 0), 3);
        CHECK.due("at one cell", x.change(2, 1), true);
        CHECK.due("the same", x.change(1, 1), false);
        CHECK.due("below", x.change(-1, 1), false);
        CHECK.due("other below", x.change(1, -1), false);
        CHECK.due("beyond", x.change(3, 1), false);
        CHECK.due("other beyond", x.change(1, 3), false);
        CHECK.due("what counts", x.count(10), 2);
    }

    private static void promise12Fades() {
        ShakingCourt x = CHECK.courtOf("cells 3; heat 5 0; fades wave * warm + time;");
        x.touch(0, 20);
        x.touch(1, 9);
        x.beat();
        // 10 * 5 of 10, and more: nothing is left.
        CHECK.due("fades by wave and warm", x.count(4), 0);
        x.touch(0, 20);
        x.touch(1, 9);
        x.beat();
        // Cells: 9 / 2 - 1, 10 - 1, 14 - 1.
        CHECK.due("cut", x.shake(0), 3);
        CHECK.due("fades by time", x.shake(1), 9);
        CHECK.due("both beside", x.shake(2), 13);

        ShakingCourt y = CHECK.courtOf("cells 3; fades 0 - 50;");
        y.touch(0, 20);
        y.beat();
        CHECK.due("less than 0 is 0", y.shake(1), 10);

        ShakingCourt z = CHECK.courtOf("cells 3; fades 9999;");
        for (int i = 0; i < 12; i++) {
            z.touch(i % 2, 20);
        }
        CHECK.due("much", z.count(4), 198);
        z.beat();
        CHECK.due("more than 99 is 99", z.count(4), 0);
        ShakingCourt w = CHECK.courtOf("cells 3; fades 98;");
        for (int i = 0; i < 12; i++) {
            w.touch(i % 2, 20);
        }
        w.beat();
        CHECK.due("99 less 98", w.shake(2), 1);
    }

    private static void promise12Children() {
        ShakingCourt x = CHECK.courtOf("cells 4; fades 0; courtier c child at 1 loyal 0;");
        x.touch(0, 20);
        x.touch(0, 20);
        CHECK.due("by 20", x.beat(), 20);
        x.undo();
        x.touch(2, 2);
        CHECK.due("by 21", x.beat(), 0);

        // Each reading is kept within 99 by itself; a maid's one more comes behind that.
        ShakingCourt y = CHECK.courtOf("cells 4; fades 0; reads 500; courtier p plain at 0 loyal 0;"
            + "courtier s spoon at 0 loyal 0; courtier m maid at 1 loyal 0; courtier n maid at 0 loyal 0;"
            + "courtier c child at 0 loyal 0;");
        y.touch(0, 20);
        CHECK.due("within 99 each", y.beat(), 99 + 198 + 100 + 99 + 99);

        // A cracked cell is read as still.
        ShakingCourt z = CHECK.courtOf("cells 4; reads wave * 10 + heart; courtier p plain at 0 loyal 4; courtier m maid at 0 loyal 5;");
        z.touch(1, 20);
        z.touch(3, 20);
        z.fork(0);
        CHECK.due("at a cracked one", z.beat(), 9);
    }

    private static void promise13() {
        ShakingCourt x = CHECK.courtOf("cells 4; fades 0; courtier p plain at 1 loyal 2; courtier s spoon at 3 loyal 3;");
        x.touch(0, 20);
        x.breathe(0);
        x.fork(3);
        x.turn();
        x.change(0, 1);
        x.beat();
        x.feel(1, 0, 5);
        CHECK.due("done", x.count(7), x.courtier(0, 3) + x.courtier(1, 3));
        CHECK.due("beat undone", x.undo(), true);
        CHECK.due("its number", x.count(2), 0);
        CHECK.due("what was done", x.count(7), 0);
        CHECK.due("shakes", x.shake(3), 17);
        CHECK.due("felt stays", x.count(9), 1);
        CHECK.due("change undone", x.undo(), true);
        CHECK.due("place", x.courtier(0, 1), 1);
        CHECK.due("turn undone", x.undo(), true);
        CHECK.due("cracks", x.count(5), 8);
        CHECK.due("fork undone", x.undo(), true);
        CHECK.due("whole", x.count(5), 0);
        CHECK.due("breath undone", x.undo(), true);
        CHECK.due("20", x.shake(0), 20);
        CHECK.due("touch undone", x.undo(), true);
        CHECK.due("0", x.shake(0), 0);
        CHECK.due("nothing more", x.undo(), false);

        for (int i = 1; i <= 20; i++) {
            x.touch(0, 1);
        }
        CHECK.due("the last 16", x.count(10), 16);
        for (int i = 0; i < 16; i++) {
            CHECK.due("undo " + i, x.undo(), true);
        }
        CHECK.due("no more than 16", x.undo(), false);
        CHECK.due("four are left", x.shake(0), 4);
        x.touch(0, 1);
        x.undo();
        CHECK.due("one again", x.shake(0), 4);

        // A forked cell has its shake again.
        x.fork(0);
        x.undo();
        CHECK.due("as it shook", x.shake(0), 4);
    }

    private static void promise14() {
        ShakingCourt x = CHECK.courtOf("cells 3; fades 0; courtier a plain at 0 loyal 0; courtier b maid at 2 loyal 0;");
        CHECK.due("no reign 0", x.judged(0), -1);
        CHECK.due("no reign 1", x.judged(1), -1);
        CHECK.due("no reign 2", x.judged(2), 0);
        // What is done by hand does not matter: it goes from the begin.
        x.touch(1, 20);
        x.fork(0);
        x.change(0, 1);
        x.beat();
        CHECK.due("reign", Check.tellReign(x, "touch 0 8;touch 1 8;touch 2 8;change a b;beat;fork 3;beat;"), 0);
        CHECK.due("first that can't be", x.judged(0), 5);
        CHECK.due("all shake", x.judged(1), 2);
        CHECK.due("done", x.judged(2), 8 + 9 + 8 + 9);
        CHECK.due("what below", x.judged(-1), -2);
        CHECK.due("what beyond", x.judged(3), -2);
        CHECK.due("all is as ahead", x.count(2), 1);

        judge(x, "touch 0 1;fork 0;touch 0 1;", 2, -1);
        judge(x, "touch 0 1;fork 0;fork 0;touch 1 1;touch 2 1;", 2, 4);
        judge(x, "fork 0;breathe 0;turn;touch 0 3;breathe 3;", 4, -1);
        judge(x, "touch 3 1;", 0, -1);
        judge(x, "breathe 11;", 0, -1);
        judge(x, "fork 0;fork 1;fork 2;beat;", -1, -1);
        judge(x, "fork 0;fork 1;touch 2 1;breathe 2;touch 2 1;", -1, 2);
        judge(x, "touch 0 2;beat;touch 0 1;", -1, 2);
        judge(x, "touch 0 1;touch 1 1;fork 2;", -1, 2);
    }

    private static void judge(ShakingCourt x, String text, int wrong, int shaking) {
        CHECK.due(text, Check.tellReign(x, text), 0);
        CHECK.due("can't be: " + text, x.judged(0), wrong);
        CHECK.due("all shake: " + text, x.judged(1), shaking);
    }

    private static void promise41() {
        ShakingCourt x = CHECK.courtOf("cells 4; courtier p plain at 1 loyal 2; courtier s spoon at 3 loyal 3;");
        CHECK.due("nothing on it", x.mark(0, true), false);
        x.touch(0, 20);
        x.feel(1, 1, 9);
        CHECK.due("laid", x.mark(0, false), true);
        CHECK.due("undo goes on", x.count(10), 1);
        x.beat();
        x.fork(2);
        x.change(0, 1);
        x.feel(1, 1, 8);
        CHECK.due("laid, too", x.mark(3, false), true);
        CHECK.due("reign", Check.tellReign(x, "beat;"), 0);
        CHECK.due("gone back", x.mark(0, true), true);
        CHECK.due("nothing can be undone", x.undo(), false);
        CHECK.due("beat", x.count(2), 0);
        CHECK.due("shakes", x.shake(0), 20);
        CHECK.due("cracks", x.count(5), 0);
        CHECK.due("place", x.courtier(0, 1), 1);
        CHECK.due("done", x.count(7), 0);
        CHECK.due("felt", x.count(9), 1);
        CHECK.due("the reign stays", x.count(8), 1);
        x.touch(0, 1);
        CHECK.due("to the other one", x.mark(3, true), true);
        CHECK.due("its beat", x.count(2), 1);
        CHECK.due("its cracks", x.count(5), 4);
        CHECK.due("its place", x.courtier(0, 1), 3);
        CHECK.due("its felt", x.count(9), 2);
        x.touch(0, 5);
        CHECK.due("again", x.mark(0, true), true);
        CHECK.due("as it was laid", x.shake(0), 20);
        x.touch(0, 5);
        CHECK.due("laid anew", x.mark(0, false), true);
        x.touch(0, 5);
        x.mark(0, true);
        CHECK.due("the new one", x.shake(0), 25);
        CHECK.due("below", x.mark(-1, false), false);
        CHECK.due("beyond", x.mark(4, false), false);
        CHECK.due("beyond, back", x.mark(4, true), false);
        CHECK.due("another", x.mark(1, true), false);
    }

    private static void promise42() {
        ShakingCourt x = CHECK.courtOf("cells 6; heat 1 4; fades 0; courtier p plain at 1 loyal 2;");
        Check.tellReign(x, "beat;turn;");
        x.touch(0, 20);
        x.beat();
        x.touch(3, 7);
        x.fork(4);
        x.feel(0, 0, 0);
        Check.write(x, "beat");
        int[] want = {6, 1, 1, 4, 27, 16, 2 + 8 + 32, 10, 2, 1, 4, 4};
        for (int what = 0; what < 12; what++) {
            CHECK.due("count " + what, x.count(what), want[what]);
        }
        CHECK.due("below", x.count(-1), -1);
        CHECK.due("beyond", x.count(12), -1);
    }
}
