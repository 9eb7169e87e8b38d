/** Promises 1 to 4: a new object, the tape, courts and reigns read, and their faults. */
public final class ReadingTest {
    private static final Check CHECK = new Check("ReadingTest");
    private static final String SIX = "courtier a plain at 0 loyal 1;courtier b plain at 0 loyal 1;"
        + "courtier c plain at 0 loyal 1;courtier d plain at 0 loyal 1;courtier e plain at 0 loyal 1;"
        + "courtier f plain at 0 loyal 1;";

    private ReadingTest() { }

    public static void main(String[] args) {
        promise1();
        promise2();
        promise3Tokens();
        promise3Courts();
        promise3Faults();
        promise3FaultsOfLaws();
        promise3Laws();
        promise3Anew();
        promise4();
        promise4Faults();
        CHECK.end();
    }

    private static void promise1() {
        ShakingCourt x = new ShakingCourt();
        int[] first = {8, 0, 0, 2, 0, 0, 0, 0, 0, 0, 0, 0};
        for (int what = 0; what < first.length; what++) {
            CHECK.due("new count " + what, x.count(what), first[what]);
        }
        CHECK.due("new undo", x.undo(), false);
        CHECK.due("new mark", x.mark(0, true), false);
        CHECK.due("new last cell", x.shake(7), 0);
        CHECK.due("new cell beyond", x.shake(8), -1);
        // Without fades: 1.
        x.touch(0, 20);
        CHECK.due("new fades", x.later(1, 1), 9);
    }

    private static void promise2() {
        ShakingCourt x = new ShakingCourt();
        CHECK.due("zeros are left out", x.feed(0, 0, 0), 0);
        CHECK.due("negative bytes are left out", x.feed(-1, -1, -1), 0);
        // 9, 10, 11, 31, 32, 126, 127, 13: three of them count.
        CHECK.due("edges of signs", x.feed(0x090a0b1f207e7f0dL, 0, 0), 3);
        CHECK.due("high bits", x.feed(0x80ffa0c1e1f10000L, 0x2041L << 48, 0x42L), 6);
        CHECK.due("count of signs", x.count(11), 6);
        for (int i = 0; i < 41; i++) {
            x.feed(0x2020202020202020L, 0x2020202020202020L, 0x2020202020202020L);
        }
        CHECK.due("990 signs", x.count(11), 990);
        CHECK.due("beyond 1,000", x.feed(0x2020202020202020L, 0x2020202020202020L, 0x2020202020202020L), 1000);
        CHECK.due("still 1,000", x.feed(0x2020202020202020L, 0, 0), 1000);
        CHECK.due("reading takes the tape", x.court(), 1 + 16 * 2);
        CHECK.due("empty then", x.count(11), 0);

        // Of each long the highest byte comes first.
        ShakingCourt y = new ShakingCourt();
        y.feed(0x63656c6c73L << 24 | 0x203520L, 0x3bL, 0);
        CHECK.due("order of bytes", y.court(), 0);
        CHECK.due("order of bytes, cells", y.count(0), 5);
    }

    private static void fault(boolean ofReign, String before, String marked, int kind) {
        ShakingCourt x = CHECK.courtOf(before);
        int place = marked.indexOf('|');
        String text = marked.substring(0, place) + marked.substring(place + 1);
        int got = ofReign ? Check.tellReign(x, text) : Check.tellCourt(x, text);
        CHECK.due("fault of " + marked, got, kind + 16 * place);
        CHECK.due("the tape is taken by " + marked, x.count(11), 0);
    }

    private static void courtFault(String marked, int kind) {
        fault(false, "", marked, kind);
    }

    private static void fine(String text) {
        CHECK.courtOf(text);
    }

    private static void promise3Tokens() {
        fine("");
        fine("  \n ");
        fine("cells8;heat1 2;courtier abcdefgh maid at0loyal9;");
        fine("cells 0003 ;");
        fine("\ncells\n3\n;\nfades\n1\n;\n");
        courtFault("cells 8|x;", 1);
        courtFault("cells |00008;", 1);
        courtFault("|Cells 8;", 1);
        courtFault("|cellsabcd 8;", 1);
        courtFault("courtier |abcdefghi maid at 0 loyal 0;", 1);
        courtFault("cells 3; |,", 1);
        courtFault("|;", 1);
        courtFault("cells 8  |", 1);
        courtFault("cells 8 \n|", 1);
        courtFault("|8", 1);
    }

    private static void promise3Courts() {
        ShakingCourt x = CHECK.courtOf("courtier wave maid at 11 loyal 9; courtier heart child at 2 loyal 0;"
            + "heat 0 5 3; cells 3; courtier warm spoon at 3 loyal 4; courtier time plain at 1 loyal 2;");
        CHECK.due("cells", x.count(0), 3);
        CHECK.due("courtiers", x.count(1), 4);
        int[][] men = {{3, 2, 9, 0}, {2, 2, 0, 0}, {1, 2, 4, 0}, {0, 1, 2, 0}};
        for (int i = 0; i < 4; i++) {
            for (int what = 0; what < 4; what++) {
                CHECK.due("courtier " + i + " " + what, x.courtier(i, what), men[i][what]);
            }
        }
        int[] heats = {0, 5, 3, 0, 5, 3, 0};
        for (int heat : heats) {
            CHECK.due("heat of beat " + x.count(2), x.count(3), heat);
            x.beat();
        }
        CHECK.due("twelve cells", CHECK.courtOf("cells 12;").count(0), 12);
        CHECK.due("six", CHECK.courtOf(SIX).count(1), 6);
        fine("heat 0 1 2 3 4 5 0 1 2 3 4 5;");
    }

    private static void promise3Faults() {
        courtFault("|court", 1);
        courtFault("|touch 1 1;", 1);
        courtFault("cells |2;", 4);
        courtFault("cells |13;", 4);
        courtFault("cells |x;", 1);
        courtFault("cells 3 |3;", 1);
        courtFault("cells|", 1);
        courtFault("cells 3|", 1);
        for (String word : "cells courtier at loyal heat fades reads touch breathe fork turn change beat".split(" ")) {
            courtFault("courtier |" + word + " plain at 0 loyal 0;", 1);
        }
        for (String word : "plain spoon child maid not and or".split(" ")) {
            courtFault("courtier |" + word + " plain at 0 loyal 0;", 1);
        }
        courtFault("courtier |7 plain at 0 loyal 0;", 1);
        courtFault("courtier a |king at 0 loyal 0;", 1);
        courtFault("courtier a |at 0 loyal 0;", 1);
        courtFault("courtier a plain |loyal 0;", 1);
        courtFault("courtier a plain at |12 loyal 0;", 4);
        courtFault("courtier a plain at |b loyal 0;", 1);
        courtFault("courtier a plain at 11 loyal |10;", 4);
        courtFault("courtier a plain at 11 loyal 9|", 1);
        courtFault("courtier a plain at 1 loyal 1; courtier |a king", 3);
        courtFault(SIX + " |courtier g plain at 0 loyal 0;", 5);
        courtFault("heat |;", 1);
        courtFault("heat |6;", 4);
        courtFault("heat 1 |x;", 1);
        courtFault("heat 1 |12345;", 1);
        courtFault("heat 1 1 1 1 1 1 1 1 1 1 1 1 |0;", 5);
        courtFault("heat 1 1 1 1 1 1 1 1 1 1 1 1 |6;", 4);
        courtFault("heat 1 1 1 1 1 1 1 1 1 1 1 1 |12345;", 1);
        courtFault("heat 1; |heat 2;", 3);
        courtFault("fades 1; |fades 1;", 3);
        courtFault("reads 1; |reads 1;", 3);
        courtFault("cells 3; |cells", 3);
    }

    private static void promise3FaultsOfLaws() {
        courtFault("fades |;", 1);
        courtFault("fades |heart;", 1);
        courtFault("fades |beat;", 1);
        courtFault("fades |foo;", 1);
        courtFault("fades |12345;", 1);
        courtFault("fades 1 |2;", 1);
        courtFault("fades 1 |wave;", 1);
        courtFault("fades |- 1;", 1);
        courtFault("fades 1 + |* 2;", 1);
        courtFault("fades 1 and |or 2;", 1);
        courtFault("fades 1 |not 2;", 1);
        courtFault("fades (1|;", 1);
        courtFault("fades 1 |);", 1);
        courtFault("fades (|);", 1);
        courtFault("fades 1|", 1);
        courtFault("reads 1 < 2 |< 3;", 1);
        courtFault("reads 1 < 2 |= 3;", 1);
        courtFault("reads 1 = 2 |< 3;", 1);
        courtFault("reads 1 = 2 + 1 |= 3;", 1);
        fine("reads (1 < 2) < 3 and 1 = 1 or 2 < (3 = 3);");
        fine("reads not not not not heart;");
        fine("reads ((((1))));");
        fine("reads not (not (1));");
        courtFault("reads not not not not not |1;", 5);
        courtFault("reads not not not not not |not", 5);
        courtFault("reads not not not not not |(", 5);
        courtFault("reads not not not not not |;", 1);
        courtFault("reads (((((|heart", 5);
        courtFault("fades (((((|heart", 1);
        courtFault("reads (((((|(1))))));", 5);
        courtFault("reads (((((|12345", 1);
        courtFault("reads (((((|)", 1);
        courtFault("reads (((((|", 1);
        courtFault("reads not (not (not |1))", 5);
        // Behind a bracket that is closed the depth is what it was.
        fine("reads ((((1)))) + ((((2)))) * not not not not 3;");
    }

    private static void promise3Laws() {
        law("1 + 2 * 3", 7);
        law("(1 + 2) * 3", 9);
        law("10 - 3 - 2", 5);
        law("10 - (3 - 2)", 9);
        law("2 * 3 * 4 - 1", 23);
        law("1 or 0 and 0", 0);
        law("0 and 0 or 1", 1);
        law("1 or (0 and 0)", 1);
        law("not 0 + 5", 6);
        law("not 5", 0);
        law("not not 5", 1);
        law("not (2 < 3)", 0);
        law("2 < 3", 1);
        law("3 < 3", 0);
        law("3 = 3", 1);
        law("3 = 1 + 2", 1);
        law("5 and 6", 1);
        law("0 - 1 and 1", 1);
        law("0 or 0 - 1", 1);
        law("0 or 0", 0);
        law("5", 5);
        law("heart", 7);
        law("warm", 3);
        law("time", 2);
        law("wave", 0);
        law("99", 99);
        law("100", 99);
        law("9999", 99);
        law("0 - 5", 0);
        // ints wrap: 2199560022 is less than 0, 4299140043 is 4172747.
        law("9999 * 9999 * 22", 0);
        law("9999 * 9999 * 22 < 0", 1);
        law("9999 * 417 < 9999 * 9999 * 43 and 9999 * 9999 * 43 < 9999 * 418", 1);
        law("0 or 2=1+1*(0 or 2=1+1*(0 or 2=1+1*(0 or 2=1+1*(0 or 2=1+1*1))))", 1);
        StringBuilder longest = new StringBuilder("0");
        while (longest.length() < 900) {
            longest.append("+1-1");
        }
        law(longest + "+7", 7);
    }

    private static void law(String law, int want) {
        ShakingCourt x = CHECK.courtOf("heat 3; courtier a plain at 0 loyal 7; reads " + law + ";");
        x.beat();
        x.beat();
        CHECK.due(law, x.beat(), want);
    }

    private static void promise3Anew() {
        ShakingCourt x = CHECK.courtOf("cells 5; courtier a plain at 4 loyal 1; courtier b maid at 0 loyal 1;");
        CHECK.due("reign", Check.tellReign(x, "beat; turn;"), 0);
        x.touch(3, 9);
        x.fork(1);
        x.change(0, 1);
        x.beat();
        x.feel(0, 0, 0);
        x.mark(2, false);
        int[] stays = new int[12];
        for (int what = 0; what < 11; what++) {
            stays[what] = x.count(what);
        }
        CHECK.due("a fault", Check.tellCourt(x, "cells 7; courtier z spoon at 0 loyal 5; fades 3; heat 9"), 4 + 16 * 54);
        for (int what = 0; what < 12; what++) {
            CHECK.due("all stays " + what, x.count(what), stays[what]);
        }
        CHECK.due("names stay", Check.tellReign(x, "change a b; change z a;"), 2 + 16 * 19);
        CHECK.due("fades stay", x.later(0, 0), x.shake(0));
        CHECK.due("undone", x.undo(), true);
        CHECK.due("mark stays", x.mark(2, true), true);

        CHECK.due("a new court", Check.tellCourt(x, "courtier a plain at 4 loyal 1;"), 0);
        int[] anew = {8, 1, 0, 2, 0, 0, 0, 0, 0, 0, 0, 0};
        for (int what = 0; what < 12; what++) {
            CHECK.due("anew " + what, x.count(what), anew[what]);
        }
        CHECK.due("anew undo", x.undo(), false);
        CHECK.due("anew mark", x.mark(2, true), false);
        CHECK.due("anew place", x.courtier(0, 1), 4);
        CHECK.due("anew crack", x.shake(1), 0);
        x.touch(0, 20);
        CHECK.due("fades untold", x.later(1, 1), 9);
        CHECK.due("another law", Check.tellCourt(x, "fades 4; heat 1; reads 2; courtier b plain at 0 loyal 0;"), 0);
        x.touch(0, 20);
        CHECK.due("fades anew", x.later(1, 1), 6);
        CHECK.due("reads anew", x.total(0, 1), 2);
        CHECK.due("heat anew", x.count(3), 1);
        CHECK.due("the first court again", Check.tellCourt(x, "courtier a plain at 4 loyal 1;"), 0);
        x.touch(0, 20);
        CHECK.due("fades untold again", x.later(1, 1), 9);
        CHECK.due("heat untold again", x.count(3), 2);
        CHECK.due("anew name", Check.tellReign(x, "change b a;"), 2 + 16 * 7);
    }

    private static void promise4() {
        ShakingCourt x = CHECK.courtOf("courtier ann plain at 0 loyal 0; courtier wave plain at 0 loyal 0;");
        CHECK.due("reign", Check.tellReign(x, "touch 11 20;touch 0 1;breathe 11;fork 11;turn;change wave ann;beat;"), 0);
        CHECK.due("lines", x.count(8), 7);
        CHECK.due("a faulty one", Check.tellReign(x, "beat; beat"), 1 + 16 * 10);
        CHECK.due("stays", x.count(8), 7);
        CHECK.due("nothing is done by it", x.count(10), 0);
        CHECK.due("forty", Check.tellReign(x, "beat;".repeat(40)), 0);
        CHECK.due("forty lines", x.count(8), 40);
        CHECK.due("an empty one", Check.tellReign(x, ""), 0);
        CHECK.due("no lines", x.count(8), 0);
    }

    private static void reignFault(String marked, int kind) {
        fault(true, "courtier ann plain at 0 loyal 0; courtier bob plain at 0 loyal 0;", marked, kind);
    }

    private static void promise4Faults() {
        reignFault("|cells 3;", 1);
        reignFault("|ann", 1);
        reignFault("|;", 1);
        reignFault("touch |12 1;", 4);
        reignFault("touch 11 |0;", 4);
        reignFault("touch 11 |21;", 4);
        reignFault("touch 11 |;", 1);
        reignFault("touch |ann", 1);
        reignFault("touch 11 20 |3", 1);
        reignFault("breathe |12;", 4);
        reignFault("breathe 11|", 1);
        reignFault("fork |12;", 4);
        reignFault("turn |1;", 1);
        reignFault("beat|", 1);
        reignFault("change |cid ann;", 2);
        reignFault("change |beat ann;", 1);
        reignFault("change |1 ann;", 1);
        reignFault("change ann |ann;", 3);
        reignFault("change ann |cid;", 2);
        reignFault("change ann |or;", 1);
        reignFault("change ann bob |bob;", 1);
        reignFault("change |heart ann;", 2);
        reignFault("beat;".repeat(40) + "|beat;", 5);
        reignFault("beat;".repeat(40) + "|heat;", 1);
        reignFault("beat;".repeat(40) + "|touch 12", 5);
    }
}
