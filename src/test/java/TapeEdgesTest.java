/** The edges of the tape and its tokens: Terms, promises 1 and 2. */
public final class TapeEdgesTest {
    private static final long EIGHT_BLANKS = 0x2020202020202020L;
    private static Edges edges;

    private TapeEdgesTest() { }

    public static void main(String[] args) throws Exception {
        edges = new Edges("TapeEdgesTest");
        aNewObject();
        atMostThousand();
        whichSigns();
        orderOfBytes();
        howMany();
        readingTakes();
        longTokens();
        words();
        numbers();
        lettersBehindNumbers();
        signs();
        blanks();
        edges.end();
    }

    private static void aNewObject() {
        edges.says("`ShakingCourt()`: 8 CELLS, nothing.");
        ShakingCourt x = new ShakingCourt();
        int[] counts = {8, 0, 0, 2, 0, 0, 0, 0, 0, 0, 0, 0};
        for (int what = 0; what < counts.length; what++) {
            edges.due("count " + what, x.count(what), counts[what]);
        }
        edges.due("the last cell", x.shake(7), 0);
        edges.due("one beyond", x.shake(8), -1);
        edges.due("no courtier", x.courtier(0, 0), -2);
        edges.due("nothing can be undone", x.undo(), false);
        for (int mark = 0; mark < 4; mark++) {
            edges.due("no mark " + mark, x.mark(mark, true), false);
        }
        edges.due("no line is wrong", x.judged(0), -1);

        edges.says("At first: 8 CELLS, nothing.");
        edges.due("as by an empty court", Edges.seen(x), Edges.seen(edges.court("")));
    }

    private static ShakingCourt blanked(int many) {
        ShakingCourt x = new ShakingCourt();
        Check.write(x, " ".repeat(many));
        edges.due(many + " blanks", x.count(11), many);
        return x;
    }

    private static void atMostThousand() {
        edges.says("The TAPE has at most 1,000 signs");
        ShakingCourt x = blanked(999);
        edges.due("the thousandth", x.feed(EIGHT_BLANKS << 56, 0, 0), 1000);
        edges.due("one more", x.feed(EIGHT_BLANKS << 56, 0, 0), 1000);
        edges.due("24 more", x.feed(EIGHT_BLANKS, EIGHT_BLANKS, EIGHT_BLANKS), 1000);
        edges.due("count", x.count(11), 1000);
        edges.due("999, then two", blanked(999).feed(EIGHT_BLANKS << 48, 0, 0), 1000);
        edges.due("976 and 24", blanked(976).feed(EIGHT_BLANKS, EIGHT_BLANKS, EIGHT_BLANKS), 1000);
        edges.due("975 and 24", blanked(975).feed(EIGHT_BLANKS, EIGHT_BLANKS, EIGHT_BLANKS), 999);
        edges.due("977 and 24", blanked(977).feed(EIGHT_BLANKS, EIGHT_BLANKS, EIGHT_BLANKS), 1000);

        edges.says("and what is beyond 1,000, are left out");
        edges.due("999 signs", Check.tellCourt(new ShakingCourt(), " ".repeat(991) + "cells 5;"), 0);
        edges.due("1,000 signs", Check.tellCourt(new ShakingCourt(), " ".repeat(992) + "cells 5;"), 0);
        edges.due("1,001 signs", Check.tellCourt(new ShakingCourt(), " ".repeat(993) + "cells 5;"), 1 + 16 * 1000);
        ShakingCourt y = new ShakingCourt();
        edges.due("what is beyond is not read", Check.tellCourt(y, " ".repeat(992) + "cells 5;#"), 0);
        edges.due("what is ahead is", y.count(0), 5);
        edges.due("a sign at the last place", Check.tellCourt(y, " ".repeat(999) + "#"), 1 + 16 * 999);
        edges.due("a full tape is read, and new signs come", Check.tellCourt(y, "cells 12;"), 0);
    }

    private static void whichSigns() {
        edges.says("others than 10 and 32 .. 126");
        for (int sign = 0; sign < 256; sign++) {
            ShakingCourt x = new ShakingCourt();
            int want = sign == 10 || sign >= 32 && sign <= 126 ? 1 : 0;
            edges.due("sign " + sign, x.feed((long) sign << 56, 0, 0), want);
            edges.due("sign " + sign + " in the middle", x.feed(0, (long) sign << 24, 0), 2 * want);
            edges.due("sign " + sign + " at the end", x.feed(0, 0, sign), 3 * want);
        }
        // What is left out leaves no gap: a tab parts nothing.
        ShakingCourt y = new ShakingCourt();
        edges.due("a tab within a word", Check.tellCourt(y, "ce\tlls\r5\u007f;"), 0);
        edges.due("is not there", y.count(0), 5);
    }

    private static void orderOfBytes() {
        edges.says("Up to 24 signs come behind the TAPE: the bytes of a, b, c, of each the highest first");
        ShakingCourt x = new ShakingCourt();
        // "courtier", " b maid ", "at7loyal", then " 9; cell", "s 9 ;   ", "heat 3 ;".
        edges.due("24", x.feed(0x636f757274696572L, 0x2062206d61696420L, 0x6174376c6f79616cL), 24);
        edges.due("48", x.feed(0x20393b2063656c6cL, 0x732039203b202020L, 0x686561742033203bL), 48);
        edges.due("read", x.court(), 0);
        edges.due("cells", x.count(0), 9);
        edges.due("kind", x.courtier(0, 0), 3);
        edges.due("place", x.courtier(0, 1), 7);
        edges.due("loyal", x.courtier(0, 2), 9);
        edges.due("heat", x.count(3), 3);
        // The same one by one, each at another place of the three.
        ShakingCourt y = new ShakingCourt();
        String text = "cells 12;heat 1;fades 0;";
        for (int i = 0; i < 24; i++) {
            long[] three = new long[3];
            three[i / 8] = (long) text.charAt(i) << 56 - i % 8 * 8;
            edges.due("sign " + i, y.feed(three[0], three[1], three[2]), i + 1);
        }
        edges.due("read one by one", y.court(), 0);
        edges.due("twelve", y.count(0), 12);
    }

    private static void howMany() {
        edges.says("are left out: how many there are.");
        ShakingCourt x = new ShakingCourt();
        edges.due("nothing", x.feed(0, 0, 0), 0);
        edges.due("three", x.feed(0x0041004200430000L, 0, 0), 3);
        edges.due("nothing more", x.feed(0, -1, Long.MIN_VALUE), 3);
        edges.due("by one", x.feed(0, 0, 0x7e), 4);
        edges.due("count", x.count(11), 4);
    }

    private static void readingTakes() {
        edges.says("what reads it takes it: it is empty then");
        ShakingCourt x = new ShakingCourt();
        Check.tellCourt(x, "cells 5;");
        edges.due("a court", x.count(11), 0);
        Check.tellCourt(x, "cells 5");
        edges.due("a court's fault", x.count(11), 0);
        Check.tellReign(x, "beat;");
        edges.due("a reign", x.count(11), 0);
        Check.tellReign(x, "beat");
        edges.due("a reign's fault", x.count(11), 0);
        edges.due("nothing of it is left", Check.tellReign(x, "turn;"), 0);
        edges.due("one line", x.count(8), 1);
        edges.due("an empty tape is a reign", x.reign(), 0);
        edges.due("of no line", x.count(8), 0);
        edges.due("cells", x.count(0), 5);
        edges.due("an empty tape is a court", x.court(), 0);
        edges.due("of 8 cells", x.count(0), 8);
    }

    private static void longTokens() {
        edges.says("TOKENS, each as long as can be");
        edges.court("cells8;heat0 5;");
        edges.courtFault("heat |12;", 4);
        edges.courtFault("|cellsx 8;", 1);
        edges.courtFault("fades |notwave;", 1);
        edges.courtFault("fades |no0;", 1);
        edges.court("fades not0;reads not not0;");
        edges.reignFault("", "|turnturn;", 1);
        edges.reignFault("", "|beatbeat;beat;", 1);
        edges.due("10 and no 1", edges.read("10"), 10);
    }

    private static void words() {
        edges.says("WORDS (letters a .. z, 8 at most)");
        edges.court("courtier a plain at 0 loyal 0;");
        edges.court("courtier z plain at 0 loyal 0;");
        edges.court("courtier abcdefg plain at 0 loyal 0;");
        edges.court("courtier abcdefgh plain at 0 loyal 0;");
        edges.courtFault("courtier |abcdefghi plain at 0 loyal 0;", 1);
        edges.courtFault("courtier |abcdefghijklmnopqrstuvwxyz plain at 0 loyal 0;", 1);
        // The eight last letters of a longer one would be a word of their own.
        edges.courtFault("|xcourtier a plain at 0 loyal 0;", 1);
        edges.courtFault("|xxxxxxxxcourtier a plain at 0 loyal 0;", 1);
        for (char letter = 'a'; letter <= 'z'; letter++) {
            edges.court("courtier q" + letter + " plain at 0 loyal 0;");
        }
        for (char none : new char[] {'`', '{', 'A', 'Z', '@', '[', '_', '\''}) {
            edges.courtFault("courtier |" + none + " plain at 0 loyal 0;", 1);
            edges.courtFault("courtier a|" + none + " plain at 0 loyal 0;", 1);
        }
        // All eight letters count: names that differ in the first or in the last one are two.
        edges.court("courtier abcdefgh plain at 0 loyal 0;courtier bbcdefgh plain at 0 loyal 0;courtier abcdefgi plain at 0 loyal 0;");
    }

    private static void numbers() {
        edges.says("NUMBERS (1 to 4 digits");
        edges.due("one digit", edges.read("9"), 9);
        edges.due("two", edges.read("09"), 9);
        edges.due("four", edges.read("0009"), 9);
        edges.courtFault("reads |00009;", 1);
        edges.courtFault("reads |99999;", 1);
        edges.courtFault("reads |999999999999999999999;", 1);
        edges.courtFault("cells |00008;", 1);
        edges.court("cells 0008;");
        edges.due("the greatest", edges.read("9999 = 9998 + 1"), 1);
        for (char digit = '0'; digit <= '9'; digit++) {
            edges.due("digit " + digit, edges.read("1" + digit + " - 10"), digit - '0');
        }
        edges.courtFault("reads |/;", 1);
        edges.courtFault("reads |:;", 1);
        edges.courtFault("reads 1|/;", 1);
        edges.courtFault("reads 1|:;", 1);

        edges.says("(a longer WORD or NUMBER, too, at its first sign)");
        edges.courtFault("heat 1 |00000;", 1);
        edges.courtFault("heat 1 |000000;", 1);
        edges.courtFault("cells 3; |abcdefghi", 1);
    }

    private static void lettersBehindNumbers() {
        edges.says("a letter may stand right behind");
        ShakingCourt x = edges.court("courtier a plain at 1loyal 2;courtier b plain at3loyal4;reads 1and 1;");
        edges.due("place", x.courtier(0, 1), 1);
        edges.due("place, too", x.courtier(1, 1), 3);
        edges.due("loyal", x.courtier(1, 2), 4);
        edges.courtFault("cells 8|x;", 1);
        edges.courtFault("cells |8888x;", 4);
        edges.courtFault("cells |88888x;", 1);
    }

    private static void signs() {
        edges.says("the signs ( ) < = + - * ;  All else");
        String between = "+-*<=";
        for (char sign = 33; sign <= 126; sign++) {
            boolean isLetter = sign >= 'a' && sign <= 'z';
            boolean isDigit = sign >= '0' && sign <= '9';
            if (between.indexOf(sign) >= 0) {
                edges.court("fades 1" + sign + "1;");
            } else if (sign == ';') {
                edges.courtFault("fades 1" + sign + "|1;", 1);
            } else if (!isDigit && !isLetter) {
                edges.courtFault("fades 1|" + sign + "1;", 1);
                edges.courtFault("|" + sign, 1);
                edges.courtFault("cells 5; |" + sign + "cells", 1);
            }
        }
        edges.court("fades (1);reads((2));");
        edges.courtFault("fades 1<|=2;", 1);
        edges.courtFault("fades 1=|=2;", 1);
        edges.courtFault("fades 1*|*2;", 1);
        edges.courtFault("fades 1;|;", 1);
    }

    private static void blanks() {
        edges.says("blanks (10, 32) between where one likes");
        edges.court("cells8;courtier a plain at0loyal0;heat1;fades(1);reads(1)and(1);");
        edges.court("\n \n cells \n\n 8 \n;\n courtier\na\nplain\nat\n0\nloyal\n0\n;\n \n");
        edges.court(" ");
        edges.court("\n");
        edges.courtFault("|ce lls 8;", 1);
        edges.courtFault("|ce\nlls 8;", 1);
        edges.courtFault("cells |1\n2;", 4);
        edges.courtFault("cells 5 |5;", 1);
        edges.courtFault("fades 1 < |= 2;", 1);
    }
}
