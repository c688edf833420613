/** The edges that the document names of MARKS, RULES, COVERS, VOTES, DRIFT and ACTS, sentence by sentence. */
public final class RuleEdgesTest {
    private static final int N = FieldCutter.NONE;
    private static final String FORTY = " 1 2 3 4 5 6 7 8 9 0 1 2 3 4 5 6 7 8 9 0 1 2 3 4 5 6 7 8 9 0 1 2 3 4 5 6 7 8 9 0";
    /** NUMBERS: # 0, 1 1, : 2, 2 3, 3 4. The row is 1 : 2, between two #. */
    private static final String ROW = "field row;field cell of row;page # 1 : 2 # 3 end;";

    public static void main(String[] args) {
        kinds();
        marks();
        marksOfMany();
        regions();
        items();
        farAndNear();
        parts();
        stops();
        again();
        eightAtMost();
        verdicts();
        nears();
        fars();
        stopsThatCanBe();
        good();
        leastOrder();
        costs();
        fewestThenCost();
        likeCovers();
        sixRules();
        hopeless();
        contradictions();
        learnt();
        patterns();
        cuts();
        cutsWithin();
        votes();
        votesOfLikeNumber();
        drifts();
        leastDrift();
        proposed();
        acts();
        sixteen();
        Due.finish("RuleEdgesTest");
    }

    private static Sentence says(String text) {
        return Sentence.says(text);
    }

    private static FieldCutter marked(String text, int[]... marks) {
        FieldCutter x = Due.read(text);
        for (int[] m : marks) {
            Due.due("mark in [" + text + "]", x.mark(m[0], m[1], m[2], m[3]) > 0, true);
        }
        return x;
    }

    private static int[] at(int page, int field, int from, int to) {
        return new int[] {page, field, from, to};
    }

    /** What a RULE of the COVER is: its ITEMS, COST and the EXAMPLES on which it is RIGHT. */
    private static void covers(Sentence s, FieldCutter x, int k, int... want) {
        for (int what = 0; what < 6; what++) {
            s.due("covers(0," + k + "," + what + ")", x.covers(0, k, what), want[what]);
        }
    }

    // ---- TOKENS and MARKS ----

    private static void kinds() {
        Sentence s = says("KINDS of TOKENS: 0 words, 1 numbers, 2 signs.");
        FieldCutter x = Due.read("page of 0 . end;");
        for (int at = 0; at < 3; at++) {
            s.due("kind of " + at, x.token(0, at, 0), at);
        }
        x = marked("field v;page x 1 . a 1 . end;", at(0, 0, 2, 3));
        s.due("a word is no number", x.tries(0, 0, N, 1, N, 0), 1);
        s.due("a number is no sign", x.tries(0, 0, N, 2, N, 1), 2);
    }

    private static void marks() {
        Sentence s = says("a row of parts (from, to: TOKENS from .. to - 1, one at least), one, or of a FIELD told with many up to 8");
        FieldCutter x = Due.read("field v;field w;field u;page" + FORTY.replaceAll("9 0$", "x 0") + " end;");
        s.due("all forty", x.mark(0, 0, 0, 40), 1);
        s.due("from", x.marked(0, 0, 0, 0), 0);
        s.due("to", x.marked(0, 0, 0, 1), 40);
        s.due("a second part", x.mark(0, 0, 39, 40), -1);
        s.due("none", x.mark(0, 1, 40, 40), -1);
        s.due("none", x.mark(0, 1, 0, 0), -1);
        s.due("41", x.mark(0, 1, 0, 41), -1);
        s.due("the last alone", x.mark(0, 1, 39, 40), 1);
        s.due("from", x.marked(0, 1, 0, 0), 39);
        s.due("to", x.marked(0, 1, 0, 1), 40);
        s.due("the first alone", x.mark(0, 2, 0, 1), 1);
        x.learn(0);
        s.due("all forty are cut", x.cut(0, 0, 0, 1), 40);
        x.learn(1);
        s.due("a rule for the last", x.cut(0, 1, 0, 0), 39);
        s.due("the most tokens", x.field(0, 5), 40);
        s.due("pattern at the last place", x.pattern(0, 39), 1);
        s.due("pattern at the last but one", x.pattern(0, 38), 0);
        s.due("pattern behind it", x.pattern(0, 40), -1);
    }

    private static void marksOfMany() {
        Sentence s = says("rising, none with a TOKEN in common");
        FieldCutter x = Due.read("field w many;page" + FORTY + " end;page" + FORTY + " end;");
        s.due("the first", x.mark(0, 0, 5, 8), 1);
        for (int[] bad : new int[][] {{5, 8}, {5, 6}, {7, 8}, {7, 9}, {6, 7}, {4, 6}, {4, 9}, {0, 5}, {4, 5}}) {
            s.due("mark(0,0," + bad[0] + "," + bad[1] + ")", x.mark(0, 0, bad[0], bad[1]), -1);
        }
        s.due("right behind", x.mark(0, 0, 8, 9), 2);
        s.due("up to the page's end", x.mark(0, 0, 30, 40), 3);
        s.due("none is left", x.mark(0, 0, 39, 40), -1);
        Sentence eight = says("of a FIELD told with many up to 8");
        for (int k = 0; k < 8; k++) {
            eight.due("part " + k, x.mark(1, 0, 4 * k, 4 * k + 1 + k % 4), k + 1);
        }
        eight.due("a ninth", x.mark(1, 0, 39, 40), -1);
        for (int k = 0; k < 8; k++) {
            eight.due("from of " + k, x.marked(1, 0, k, 0), 4 * k);
            eight.due("to of " + k, x.marked(1, 0, k, 1), 4 * k + 1 + k % 4);
        }
        eight.due("no ninth", x.marked(1, 0, 8, 0), -1);
    }

    private static void regions() {
        Sentence s = says("Its REGION on such a PAGE: all TOKENS, or its PARENT's MARK.");
        FieldCutter x = marked(ROW, at(0, 0, 1, 4), at(0, 1, 3, 4));
        s.due("all tokens: the first # is far", x.tries(0, 0, 3, N, N, 3), 1);
        s.due("ahead of its parent's mark", x.tries(0, 1, 3, 5, N, N), 0);
        s.due("right behind its parent's mark", x.tries(0, 1, N, 5, N, 3), 0);
        s.due("the parent's first token", x.tries(0, 1, 4, 5, N, N), 1);
        s.due("the mark's end is the region's", x.tries(0, 1, N, 5, N, N), 1);
        s.due("all of it", x.tries(0, 1, N, N, N, N), 2);
        x = marked(ROW, at(0, 0, 1, 4), at(0, 1, 1, 4));
        s.due("as long as its parent's mark", x.tries(0, 1, N, N, N, N), 1);
        Sentence within = says("of a FIELD with a PARENT within that one's MARK there");
        x = marked(ROW, at(0, 0, 1, 4));
        within.due("a token ahead", x.mark(0, 1, 0, 2), -1);
        within.due("a token behind", x.mark(0, 1, 3, 5), -1);
        within.due("right ahead", x.mark(0, 1, 0, 1), -1);
        within.due("right behind", x.mark(0, 1, 4, 5), -1);
        within.due("all of it", x.mark(0, 1, 1, 4), 1);
    }

    // ---- what a RULE cuts ----

    private static void items() {
        Sentence s = says("ITEMS: 0, 1, 2: any TOKEN of that KIND; 3 and a NUMBER: that TOKEN.");
        FieldCutter x = marked("field v;page x 1 . y 2 . z end;", at(0, 0, 4, 5));
        // Behind the first word, number, sign, x, 1, ., y there is a . to stop at; behind 2 and z there is none.
        int[] want = {2, 2, 2, 2, 2, 2, 1, 0, 0};
        for (int item = 0; item < want.length; item++) {
            s.due("near " + item, x.tries(0, 0, N, item, N, 5), want[item]);
        }
        s.due("of 6 tokens the last is item 8", x.tries(0, 0, N, N, N, 8), 2);
        s.due("item 9 there is not", x.tries(0, 0, N, N, N, 9), -1);
        Due.tell(x, "page q end;");
        x.page();
        s.due("item 9 there is now", x.tries(0, 0, N, N, N, 9), 0);
        x.undo();
        s.due("item 9 there is no more", x.tries(0, 0, N, N, N, 9), -1);
        Sentence second = says("two NEAR (each an ITEM, or NONE; the second is NONE, if the first is)");
        second.due("second alone", x.tries(0, 0, N, N, 6, N), -1);
        second.due("second alone, with far", x.tries(0, 0, 6, N, 6, 5), -1);
        second.due("first alone", x.tries(0, 0, N, 6, N, 5), 1);
        second.due("both", x.tries(0, 0, N, 5, 6, 5), 1);
        second.due("neither", x.tries(0, 0, 6, N, N, 5), 1);
    }

    private static void farAndNear() {
        // NUMBERS: a 0, : 1, 1 2, 2 3, . 4.
        String text = "field v;page a : 1 : 2 . end;";
        FieldCutter x = marked(text, at(0, 0, 2, 6));
        Sentence s = says("FAR (if it is no NONE): behind the first TOKEN that is so; NEAR: behind the first one (or two side by side) that are so, from there on; there a part begins.");
        s.due("from its begin on", x.tries(0, 0, N, N, N, N), 2);
        s.due("behind the first :", x.tries(0, 0, 4, N, N, N), 1);
        s.due("near the first :", x.tries(0, 0, N, 4, N, N), 1);
        s.due("near right behind far", x.tries(0, 0, 3, 4, N, N), 1);
        s.due("near is not far itself", x.tries(0, 0, 5, 5, N, N), 0);
        s.due("the second : behind the first", x.tries(0, 0, 4, 4, N, N), 2);
        s.due("two side by side", x.tries(0, 0, N, 3, 4, N), 1);
        s.due("two that are not", x.tries(0, 0, N, 3, 5, N), 0);
        s.due("two the other way round", x.tries(0, 0, N, 4, 3, N), 0);
        s.due("the first of two ahead of far's end", x.tries(0, 0, 3, 3, 4, N), 0);
        s.due("two behind far", x.tries(0, 0, 3, 4, 5, N), 2);
        s.due("far is the last token", x.tries(0, 0, 7, N, N, N), 0);
        s.due("far is the last but one", x.tries(0, 0, 6, N, N, N), 2);
        x = marked(text, at(0, 0, 4, 6));
        s.due("the second : behind the first", x.tries(0, 0, 4, 4, N, N), 1);
        s.due("far not the first :", x.tries(0, 0, 5, 4, N, N), 1);
        s.due("two, the second pair of kinds", x.tries(0, 0, N, 1, 4, N), 1);
        x = marked("field v;page 1 1 1 2 end;", at(0, 0, 2, 4));
        s.due("two like ones", x.tries(0, 0, N, 3, 3, N), 1);
        s.due("two of a kind", x.tries(0, 0, N, 1, 1, N), 1);
        s.due("two like ones, behind one", x.tries(0, 0, 3, 3, 3, N), 2);
    }

    private static void parts() {
        Sentence s = says("Is one of these not found, or has the part no TOKEN: none is cut.");
        FieldCutter x = marked("field v;page a : 1 . end;page b end;", at(0, 0, 2, 3));
        s.due("far not found", x.tries(0, 0, 7, 4, N, 6), 0);
        s.due("near not found", x.tries(0, 0, N, 7, N, 6), 0);
        s.due("second not found", x.tries(0, 0, N, 4, 7, 6), 0);
        s.due("stop not found", x.tries(0, 0, N, 4, N, 7), 0);
        s.due("all are found", x.tries(0, 0, 3, 4, N, 6), 1);
        s.due("near is the last token", x.tries(0, 0, N, 6, N, N), 0);
        s.due("both near are the last tokens", x.tries(0, 0, N, 5, 6, N), 0);
        s.due("the second near would lie behind the page", x.tries(0, 0, N, 6, 6, N), 0);
        s.due("one token is left", x.tries(0, 0, N, 5, N, N), 2);
        x = marked("field v;page" + FORTY + " end;", at(0, 0, 39, 40));
        s.due("near is the 40th", x.tries(0, 0, N, 12, N, N), 2);
        s.due("far the 10th, near the 20th, no third", x.tries(0, 0, 12, 12, N, 12), 2);
    }

    private static void stops() {
        Sentence s = says("It ends ahead of the first TOKEN that is STOP, from the next one of the part on, or at the end of the REGION, if STOP is NONE.");
        FieldCutter x = marked("field v;page : . a . b end;", at(0, 0, 1, 3));
        s.due("the first token is none, as itself", x.tries(0, 0, N, 3, N, 4), 1);
        s.due("the first token is none, as a kind", x.tries(0, 0, N, 3, N, 2), 1);
        s.due("the next one is", x.tries(0, 0, N, 3, N, 5), 2);
        s.due("at the end", x.tries(0, 0, N, 3, N, N), 2);
        s.due("the first token of a part of one", x.tries(0, 0, N, 5, 4, 6), 0);
        x = marked("field v;page : . a . b end;", at(0, 0, 1, 5));
        s.due("at the end", x.tries(0, 0, N, 3, N, N), 1);
        x = marked("field v;page : . a . b end;", at(0, 0, 1, 4));
        s.due("the last token", x.tries(0, 0, N, 3, N, 6), 1);
        x = marked("field v;page : . a . b end;", at(0, 0, 1, 2));
        s.due("the next one", x.tries(0, 0, N, 3, N, 5), 1);
        x = marked(ROW, at(0, 0, 1, 4), at(0, 1, 3, 4));
        s.due("not behind the region", x.tries(0, 1, N, 5, N, 3), 0);
        s.due("nor any sign", x.tries(0, 1, N, 5, N, 2), 0);
        s.due("not right behind the region, two tokens on", x.tries(0, 1, N, 4, N, 3), 0);
        s.due("not farther behind it", x.tries(0, 1, N, 4, N, 7), 0);
        s.due("at its last token", x.tries(0, 1, N, 4, N, 6), 2);
    }

    private static void again() {
        Sentence s = says("Of a FIELD told with many this is done again from behind the part on, as long as one is cut (8 at most).");
        String pages = "page : 1 : 2 : 3 end;page a 1 2 a 3 4 a 5 end;";
        // Stop : : two parts; the third has no stop behind it.
        FieldCutter x = marked("field w many;" + pages, at(0, 0, 1, 2), at(0, 0, 3, 4));
        s.due("as long as one is cut", x.tries(0, 0, N, 3, N, 3), 1);
        s.due("to the end: one part", x.tries(0, 0, N, 3, N, N), 2);
        s.due("far is looked for again", x.tries(0, 0, 3, N, N, 3), 1);
        s.due("a token that comes once is far once", x.tries(0, 0, 4, 3, N, 3), 2);
        x = marked("field w many;" + pages, at(0, 0, 1, 2), at(0, 0, 3, 4), at(0, 0, 5, 6));
        s.due("the third is not cut", x.tries(0, 0, N, 3, N, 3), 2);
        // Without near the stop of one part is the begin of the next.
        x = marked("field w many;" + pages, at(0, 0, 0, 2), at(0, 0, 2, 4));
        s.due("from behind the part on", x.tries(0, 0, N, N, N, 3), 1);
        x = marked("field v;" + pages, at(0, 0, 1, 2));
        s.due("not again without many", x.tries(0, 0, N, 3, N, 3), 1);
        s.due("nor without near", x.tries(0, 0, N, N, N, 4), 2);
        x.learn(0);
        s.due("one part is cut", x.cut(0, 0, N, 0), 1);
        x = marked("field w many;" + pages, at(1, 0, 1, 2), at(1, 0, 4, 5));
        s.due("near a, stop a number", x.tries(1, 0, N, 7, N, 1), 1);
    }

    private static void eightAtMost() {
        Sentence s = says("as long as one is cut (8 at most)");
        String nine = "page , 1 , 2 , 3 , 4 , 5 , 6 , 7 , 8 , 9 , end;";
        FieldCutter x = marked("field w many;" + nine);
        for (int k = 0; k < 8; k++) {
            s.due("before part " + k, x.tries(0, 0, N, 3, N, 3), k == 0 ? -1 : 2);
            x.mark(0, 0, 2 * k + 1, 2 * k + 2);
        }
        s.due("eight of nine", x.tries(0, 0, N, 3, N, 3), 1);
        x.learn(0);
        s.due("parts", x.cut(0, 0, N, 0), 8);
        s.due("the last one", x.cut(0, 0, 7, 0), 15);
        s.due("no ninth", x.cut(0, 0, 8, 0), -1);
        s.due("letters", x.letter(0, 0, N), 15);
    }

    private static void verdicts() {
        Sentence s = says("The RULE is SILENT on an EXAMPLE, if it cuts none, RIGHT, if it cuts just the MARK's parts, else WRONG.");
        FieldCutter x = marked("field w many;page , 1 , 2 , 3 , end;", at(0, 0, 1, 2), at(0, 0, 3, 4));
        s.due("a part more", x.tries(0, 0, N, 3, N, 3), 2);
        x.mark(0, 0, 5, 6);
        s.due("just these", x.tries(0, 0, N, 3, N, 3), 1);
        s.due("a part less", x.tries(0, 0, 4, 3, N, 3), 2);
        s.due("longer by one", x.tries(0, 0, N, 3, N, 1), 2);
        s.due("none", x.tries(0, 0, 6, 6, N, N), 0);
        x = marked("field v;page , 1 , 2 , 3 , end;", at(0, 0, 1, 3));
        s.due("the same from, another to", x.tries(0, 0, N, 3, N, 3), 2);
        s.due("another from, the same to", x.tries(0, 0, N, 4, N, 5), 2);
    }

    // ---- RULES that can be ----

    private static void nears() {
        Sentence s = says("NEAR: none, the TOKEN right ahead of it, or the two right ahead of it, in the REGION, each as its KIND or as itself");
        // Near none: far none, 0, a; near one, twice: far none; near two: there are not two.
        s.due("one ahead", marked("field v;page a 1 end;", at(0, 0, 1, 2)).could(0, 0), 5);
        s.due("none ahead", marked("field v;page a 1 end;", at(0, 0, 0, 2)).could(0, 0), 1);
        // Near none: far none, 0, a, b; near one, twice: far none, 0, a; near two, 4 times: far none.
        s.due("two ahead", marked("field v;page a b 1 end;", at(0, 0, 2, 3)).could(0, 0), 14);
        // Near none: 5; near one, twice: far none, 0, a, b; near two, 4 times: far none, 0, a.
        s.due("three ahead", marked("field v;page a b c 1 end;", at(0, 0, 3, 4)).could(0, 0), 25);
        // Near none: far none, 0, a; near a or 0: 3 each; near two, each a or 0: far none.
        s.due("unlike ones alone", marked("field v;page a a 1 end;", at(0, 0, 2, 3)).could(0, 0), 13);
        Sentence first = says("of each EXAMPLE, by the first part of its MARK");
        FieldCutter x = marked("field w many;page a 1 b 2 end;", at(0, 0, 1, 2));
        // 5 as above, each with stop none, 0, b.
        first.due("of one part", x.could(0, 0), 15);
        x.mark(0, 0, 3, 4);
        first.due("of two", x.could(0, 0), 15);
        Sentence region = says("NEAR: none, the TOKEN right ahead of it, or the two right ahead of it, in the REGION");
        x = marked(ROW, at(0, 0, 1, 4), at(0, 1, 1, 2));
        region.due("at the region's begin: stop none, 2, :", x.could(1, 0), 3);
        x = marked(ROW, at(0, 0, 1, 4), at(0, 1, 2, 4));
        region.due("one ahead in the region", x.could(1, 0), 5);
    }

    private static void fars() {
        Sentence s = says("FAR: NONE, or any TOKEN of the REGION ahead of those, as its KIND or as itself");
        FieldCutter x = marked(ROW, at(0, 0, 1, 4), at(0, 1, 3, 4));
        // Near none: far none, 1, '1', 2, :; near one, twice: far none, 1, '1'; near two, 4 times: far none.
        s.due("in the region", x.could(1, 0), 15);
        x = marked("field v;page a b c d end;", at(0, 0, 3, 4));
        s.due("all of one kind", x.could(0, 0), 25);
        x = marked("field v;page a 1 . 7 end;", at(0, 0, 3, 4));
        // Near none: far none, 0, a, 1, '1', 2, .; near one, twice: far none, 0, a, 1, '1'; near two,
        // 4 times: far none, 0, a.
        s.due("of three kinds", x.could(0, 0), 29);
        x = marked("field v;page" + FORTY + " end;", at(0, 0, 39, 40));
        // Ten numbers: near none: far none, 1, ten; near one, twice: as many; near two, 4 times: as many.
        s.due("forty tokens", x.could(0, 0), 12 * 7);
    }

    private static void stopsThatCanBe() {
        Sentence s = says("STOP: NONE, or the TOKEN right behind the part, in the REGION, as its KIND or as itself.");
        s.due("none behind", marked("field v;page a end;", at(0, 0, 0, 1)).could(0, 0), 1);
        s.due("one behind", marked("field v;page a b end;", at(0, 0, 0, 1)).could(0, 0), 3);
        s.due("two behind", marked("field v;page a b 1 end;", at(0, 0, 0, 1)).could(0, 0), 3);
        FieldCutter x = marked(ROW, at(0, 0, 1, 4), at(0, 1, 1, 4));
        s.due("behind the region", x.could(1, 0), 1);
        x = marked(ROW, at(0, 0, 1, 4), at(0, 1, 1, 3));
        s.due("the region's last token", x.could(1, 0), 3);
        x = marked("field v;page" + FORTY + " end;", at(0, 0, 0, 39));
        s.due("the 40th token", x.could(0, 0), 3);
        Sentence unlike = Sentence.promises(19, "How many unlike RULES can be (what 0)");
        x = marked("field v;page a b end;page a b end;", at(0, 0, 0, 1));
        unlike.due("of one", x.could(0, 0), 3);
        x.mark(1, 0, 0, 1);
        unlike.due("of two like ones", x.could(0, 0), 3);
    }

    private static void good() {
        Sentence s = says("GOOD are those of all EXAMPLES that are WRONG on none.");
        FieldCutter x = marked("field v;page a : 1 end;page b : 2 3 end;page c end;", at(0, 0, 2, 3));
        s.due("can be", x.could(0, 0), 15);
        s.due("good", x.could(0, 1), 12);
        // 4 of page 0 name a and are silent on page 1; 24 of page 1 have a stop and are silent on page 0.
        x.mark(1, 0, 2, 3);
        s.due("of both", x.could(0, 0), 50);
        s.due("good", x.could(0, 1), 28);
        x.unmark(1, 0);
        s.due("good again", x.could(0, 1), 12);
        s.due("the rule of nothing", marked("field v;page a b end;", at(0, 0, 0, 2)).could(0, 1), 1);
        x = marked("field v;page a b end;page a b end;", at(0, 0, 0, 2), at(1, 0, 1, 2));
        s.due("the rule of nothing is wrong on page 1", x.could(0, 1), 0);
        s.due("all rules", x.could(0, 0), 5);
    }

    // ---- COVERS ----

    private static void leastOrder() {
        Sentence s = says("RULES are ordered by COST, then by FAR, the first NEAR, the second, STOP (NONE ahead of 0).");
        covers(s, marked("field v;page a b 1 end;", at(0, 0, 2, 3)), 0, N, 4, N, N, 2, 1);
        // Far a is as cheap as near a: none is ahead of a.
        covers(s, marked("field v;page a 1 end;", at(0, 0, 1, 2)), 0, N, 3, N, N, 2, 1);
        // Two pairs of pages have a rule in common: near a word and b, or near b and a word.
        FieldCutter x = marked("field v;page b b b end;page a a b b end;page b a a end;", at(0, 0, 2, 3), at(1, 0, 3,
                4),
                at(2, 0, 2, 3));
        s.due("rules", x.cover(0, 0), 2);
        covers(s, x, 0, N, 0, 3, N, 5, 3);
        covers(s, x, 1, N, 3, 4, N, 4, 4);
        // Near c and a word, stop a, or near c and a, stop a word: the second near is told ahead of stop.
        x = marked("field v;page a b c b end;page c a b a c end;page c c c a end;page c c a b b end;", at(0, 0, 0, 1),
                at(1, 0, 2, 3), at(2, 0, 2, 3), at(3, 0, 3, 4));
        s.due("hopeless", x.cover(0, 2), 1);
        covers(s, x, 0, N, 5, 0, 3, 7, 6);
        covers(s, x, 1, N, 5, 3, 4, 6, 8);
    }

    private static void costs() {
        Sentence s = says("COST: 3 for each KIND, 2 for each TOKEN.");
        covers(s, marked("field v;page a 1 end;page b 2 end;", at(0, 0, 1, 2), at(1, 0, 1, 2)), 0, N, 0, N, N, 3, 3);
        covers(s, marked("field v;page a a 1 end;", at(0, 0, 2, 3)), 0, N, 3, 3, N, 4, 1);
        covers(s, marked("field v;page a end;", at(0, 0, 0, 1)), 0, N, N, N, N, 0, 1);
        covers(s, marked("field v;page 1 a 2 end;", at(0, 0, 0, 1)), 0, N, N, N, 4, 2, 1);
        covers(s, marked("field v;page 1 a 2 end;page 1 b 2 end;", at(0, 0, 0, 1), at(1, 0, 0, 1)), 0, N, N, N, 0, 3,
                3);
        // Far k, near :, as the third : is the one.
        FieldCutter x = marked("field v;page q : : k w : 5 end;page p : : k v : 6 end;", at(0, 0, 6, 7), at(1, 0, 6,
                7));
        s.due("cost", x.cover(0, 1), 4);
        covers(s, x, 0, 5, 4, N, N, 4, 3);
        // Far a number, near :.
        x = marked("field v;page a : : 1 x : 5 end;page b : : 2 y : 6 end;", at(0, 0, 6, 7), at(1, 0, 6, 7));
        covers(s, x, 0, 1, 4, N, N, 5, 3);
        x.learn(0);
        s.due("of what is learnt", x.rule(0, 0, 4), 5);
    }

    private static void fewestThenCost() {
        Sentence s = says("of the fewest RULES, of like ones of the least COST together");
        // Near a, then near b are 4 together; near q and a word is one rule of 5.
        FieldCutter x = marked("field v;page q a 1 end;page q b 2 end;", at(0, 0, 2, 3), at(1, 0, 2, 3));
        s.due("one rule", x.cover(0, 0), 1);
        s.due("cost", x.cover(0, 1), 5);
        covers(s, x, 0, N, 3, 0, N, 5, 3);
        // Near a a (page 0 alone) is ahead of far a near a (pages 0 and 2), but then a rule of 5 is left for
        // pages 1 and 2, and near b b of 4 for page 1 alone.
        x = marked("field v;page a a b end;page b b b end;page a b a a end;", at(0, 0, 2, 3), at(1, 0, 2, 3), at(2, 0,
                3, 4));
        s.due("two rules", x.cover(0, 0), 2);
        s.due("cost", x.cover(0, 1), 8);
        covers(s, x, 0, 3, 3, N, N, 4, 5);
        covers(s, x, 1, N, 4, 4, N, 4, 2);
        s.due("learn", x.learn(0), 2);
        s.due("far", x.rule(0, 0, 0), 3);
    }

    private static void likeCovers() {
        Sentence s = says("each RIGHT on the least EXAMPLE on which none ahead is, so that each EXAMPLE has one");
        // The dearer rule is the one of page 0.
        FieldCutter x = marked("field v;page : : 5 end;page # 6 end;", at(0, 0, 2, 3), at(1, 0, 1, 2));
        s.due("rules", x.cover(0, 0), 2);
        s.due("cost", x.cover(0, 1), 6);
        covers(s, x, 0, N, 3, 3, N, 4, 1);
        covers(s, x, 1, N, 5, N, N, 2, 2);
        Sentence like = says("of like ones RULE by RULE the first by their order");
        // Near a word, stop a (pages 0 and 2), then near a, stop b; or near a, stop a word (pages 0 and 1), then
        // near b, stop a: 9 together each.
        x = marked("field v;page a 12 a end;page c a 12 b end;page b 12 12 a end;", at(0, 0, 1, 2), at(1, 0, 2, 3),
                at(2, 0, 1, 3));
        like.due("cost", x.cover(0, 1), 9);
        covers(like, x, 0, N, 0, N, 3, 5, 5);
        covers(like, x, 1, N, 3, N, 6, 4, 2);
        Sentence none = says("The COVER of a FIELD: a row of GOOD RULES");
        x = Due.read("field v;page a end;");
        none.due("of no example", x.cover(0, 0), 0);
        none.due("its cost", x.cover(0, 1), 0);
        none.due("hopeless", x.cover(0, 2), 0);
        none.due("its first rule", x.covers(0, 0, 0), -2);
    }

    private static void sixRules() {
        Sentence s = says("PAGES, 6 at most, numbered as told");
        // Each page has a word of its own ahead of the mark, at another place each.
        FieldCutter x = Due.read("field v;page a 7 end;page z b 7 end;page z z c 7 end;page z z z d 7 end;"
                + "page z z z z e 7 end;page z z z z z f 7 end;");
        for (int p = 0; p < 6; p++) {
            x.mark(p, 0, p + 1, p + 2);
        }
        s.due("six rules", x.cover(0, 0), 6);
        s.due("cost", x.cover(0, 1), 12);
        s.due("none hopeless", x.cover(0, 2), 0);
        int[] words = {3, 6, 7, 8, 9, 10};
        for (int p = 0; p < 6; p++) {
            covers(s, x, p, N, words[p], N, N, 2, 1 << p);
        }
        s.due("all six are enough", x.enough(0), 63);
        s.due("learn", x.learn(0), 6);
        for (int p = 0; p < 6; p++) {
            s.due("by(" + p + ",0)", x.by(p, 0), p);
        }
        s.due("right on all", x.right(0), 6);
        s.due("no page is left", x.next(0), -1);
        s.due("no seventh rule", x.rule(0, 6, 0), -2);
        s.due("no seventh rule", x.covers(0, 6, 0), -2);
    }

    private static void hopeless() {
        Sentence s = says("HOPELESS is an EXAMPLE on which no GOOD RULE is RIGHT (these are left out of what is COVERED).");
        FieldCutter x = marked("field v;page a : 1 end;page a b end;page a b end;", at(0, 0, 2, 3));
        s.due("one example", x.cover(0, 2), 0);
        x.mark(1, 0, 0, 1);
        x.mark(2, 0, 1, 2);
        s.due("two are", x.cover(0, 2), 6);
        s.due("one rule for the third", x.cover(0, 0), 1);
        s.due("learn", x.learn(0), 1);
        s.due("of one example right", x.right(0), 1);
        x.unmark(0, 0);
        s.due("all are", x.cover(0, 2), 6);
        s.due("no rule", x.cover(0, 0), 0);
        s.due("no cost", x.cover(0, 1), 0);
        s.due("learnt without rules", x.learn(0), 0);
        s.due("shape all the same", x.field(0, 4), 1);
        s.due("not cut", x.cut(1, 0, N, 0), 0);
    }

    private static void contradictions() {
        Sentence s = says("no RULE that can be by them alone is RIGHT on both, or RIGHT on one and SILENT on the other one, or the other way round");
        FieldCutter x = marked("field v;page a 1 end;page b 2 end;", at(0, 0, 1, 2), at(1, 0, 1, 2));
        s.due("right on both", x.contradict(0, 0, 1), 0);
        // Stop b is right on page 0 and wrong on page 1; near b is right on page 1 and silent on page 0.
        x = marked("field v;page a b end;page a b : end;", at(0, 0, 0, 1), at(1, 0, 2, 3));
        s.due("stop b on page 1", x.tries(1, 0, N, N, N, 4), 2);
        s.due("near b on page 0", x.tries(0, 0, N, 4, N, N), 0);
        s.due("silent on the first, right on the second", x.contradict(0, 0, 1), 0);
        s.due("right on the first, silent on the second", x.contradict(0, 1, 0), 0);
        s.due("page 0 is hopeless all the same", x.cover(0, 2), 1);
        // Pages 0 and 2 are like; page 1 contradicts either.
        x = marked("field v;page a b end;page a b end;page a b end;", at(0, 0, 0, 1), at(1, 0, 1, 2), at(2, 0, 0, 1));
        s.due("by them alone", x.contradict(0, 0, 2), 0);
        s.due("0 and 1", x.contradict(0, 0, 1), 1);
        s.due("2 and 1", x.contradict(0, 2, 1), 1);
        s.due("by all three none is right", x.cover(0, 2), 7);
    }

    // ---- what is LEARNT and CUT ----

    private static void learnt() {
        Sentence s = says("LEARNT of a FIELD are its COVER as it was when it was learnt, and the SHAPE: the fewest and the most TOKENS of parts of all MARKS then");
        FieldCutter x = marked("field v;page a : 1 end;page b # x y z end;page a b end;page a b end;", at(0, 0, 2, 3));
        x.learn(0);
        x.mark(1, 0, 2, 5);
        s.due("rules then", x.field(0, 3), 1);
        s.due("near then", x.rule(0, 0, 1), 4);
        s.due("fewest then", x.field(0, 4), 1);
        s.due("most then", x.field(0, 5), 1);
        s.due("kinds then", x.field(0, 6), 2);
        x.learn(0);
        s.due("rules now", x.field(0, 3), 1);
        s.due("fewest now", x.field(0, 4), 1);
        s.due("most now", x.field(0, 5), 3);
        s.due("kinds now", x.field(0, 6), 3);
        x.unmark(0, 0);
        x.unmark(1, 0);
        s.due("without examples as it was", x.field(0, 5), 3);
        x.mark(2, 0, 0, 1);
        x.mark(3, 0, 0, 2);
        x.learn(0);
        s.due("of hopeless ones no rule", x.field(0, 3), 0);
        s.due("of hopeless ones, too, the fewest", x.field(0, 4), 1);
        s.due("of hopeless ones, too, the most", x.field(0, 5), 2);
        Sentence kinds = says("KINDS of their first TOKENS, of their last ones (as bits)");
        x = marked("field w many;page a 1 . b , 2 end;", at(0, 0, 0, 2));
        x.learn(0);
        kinds.due("first", x.field(0, 6), 1);
        kinds.due("last", x.field(0, 7), 2);
        x.mark(0, 0, 2, 4);
        x.mark(0, 0, 5, 6);
        x.learn(0);
        kinds.due("first", x.field(0, 6), 7);
        kinds.due("last", x.field(0, 7), 3);
    }

    private static void patterns() {
        Sentence s = says("a PATTERN: of each place below the fewest the KIND of the TOKENS there, if it is the same in all parts, else 3");
        FieldCutter x = marked("field w many;page 1 a . , 1 b 2 , end;page x y end;", at(0, 0, 0, 3));
        x.learn(0);
        int[] alone = {1, 0, 2, -1};
        for (int place = 0; place < 4; place++) {
            s.due("one part, place " + place, x.pattern(0, place), alone[place]);
        }
        x.mark(0, 0, 4, 7);
        x.learn(0);
        int[] both = {1, 0, 3, -1};
        for (int place = 0; place < 4; place++) {
            s.due("two parts, place " + place, x.pattern(0, place), both[place]);
        }
        x.mark(1, 0, 0, 2);
        x.learn(0);
        int[] three = {3, 0, -1, -1};
        for (int place = 0; place < 4; place++) {
            s.due("a shorter one, too, place " + place, x.pattern(0, place), three[place]);
        }
        // 3 stays 3, though the third part has the KIND of the second.
        x = marked("field w many;page 1 , a , a , end;", at(0, 0, 0, 1), at(0, 0, 2, 3), at(0, 0, 4, 5));
        x.learn(0);
        s.due("unlike, then like", x.pattern(0, 0), 3);
    }

    private static void cuts() {
        Sentence s = says("A PAGE is CUT in a FIELD: by the first LEARNT RULE that is not SILENT in the REGION");
        FieldCutter x = marked("field v;page : : 5 end;page # 6 end;page # 1 : : 2 end;page # : 1 end;page x end;",
                at(0, 0, 2, 3), at(1, 0, 1, 2));
        x.learn(0);
        int[] by = {0, 1, 0, 1, -1};
        int[] from = {2, 1, 4, 1, -1};
        for (int p = 0; p < 5; p++) {
            s.due("by(" + p + ",0)", x.by(p, 0), by[p]);
            s.due("from on page " + p, x.cut(p, 0, 0, 0), from[p]);
        }
    }

    private static void cutsWithin() {
        Sentence s = says("all of the PAGE, or the first part that it is CUT in the PARENT (none if there is none)");
        String text = "field row;field cell of row;page # 1 : 2 # 3 end;page : 4 # 5 : 6 # end;page : 7 end;";
        FieldCutter x = marked(text, at(0, 0, 1, 4), at(0, 1, 3, 4));
        x.learn(1);
        s.due("the parent is not learnt", x.cut(0, 1, N, 0), 0);
        x.learn(0);
        s.due("all of the page", x.cut(1, 0, 0, 0), 3);
        s.due("in the parent's part", x.cut(1, 1, 0, 0), 5);
        s.due("up to its end", x.cut(1, 1, 0, 1), 6);
        s.due("the parent is not cut", x.cut(2, 1, N, 0), 0);
        s.due("drift", x.drift(2, 1), 1);
        // Not the parent's mark, but what it is cut to.
        x.mark(2, 0, 0, 2);
        s.due("the parent is marked, not cut", x.cut(2, 1, N, 0), 0);
        x.unmark(0, 0);
        s.due("the parent is cut, not marked", x.cut(0, 1, 0, 0), 3);
    }

    // ---- VOTES ----

    private static void votes() {
        Sentence s = says("each GOOD RULE that is RIGHT on some EXAMPLE (of those that can be now) has one");
        FieldCutter x = marked("field v;page a : 1 end;page b : 2 3 end;page c end;", at(0, 0, 2, 3));
        s.due("opinions", x.opinion(1, 0, 0), 2);
        s.due("votes", x.opinion(1, 0, 1), 8);
        // The rules of page 0 that are wrong on page 1 vote no more: 4 are left, and 24 of page 1.
        x.mark(1, 0, 2, 3);
        s.due("votes of page 0's and page 1's", x.opinion(2, 0, 1), 28);
        s.due("on page 0: 24 for none, 4 for 1", x.opinion(0, 0, 1), 24);
        s.due("the most have no parts", x.opinion(0, 0, 2), 0);
        s.due("two opinions", x.opinion(0, 0, 0), 2);
        s.due("the rule of nothing votes", marked("field v;page a b end;", at(0, 0, 0, 2)).opinion(0, 0, 1), 1);
        Sentence none = says("in the REGION as for CUT (for none, if it cuts none, or there is no REGION)");
        x = marked(ROW, at(0, 0, 1, 4), at(0, 1, 1, 4));
        none.due("no region: one opinion", x.opinion(0, 1, 0), 1);
        none.due("of one vote", x.opinion(0, 1, 1), 1);
        none.due("for none", x.opinion(0, 1, 2), 0);
        none.due("from", x.opinion(0, 1, 3), -1);
        x.learn(0);
        none.due("a region", x.opinion(0, 1, 2), 1);
        none.due("from", x.opinion(0, 1, 3), 1);
        none.due("to", x.opinion(0, 1, 4), 4);
        Sentence now = says("(of those that can be now)");
        x = marked("field v;page a : 1 end;page b : 2 3 end;", at(0, 0, 2, 3));
        x.learn(0);
        x.unmark(0, 0);
        now.due("what is learnt has no votes", x.opinion(1, 0, 0), 0);
        now.due("it cuts all the same", x.cut(1, 0, N, 0), 1);
        now.due("nothing is proposed", x.proposed(1, 0, N, 0), -1);
    }

    /** Stop x and stop y have like votes on page 2, for parts of their own. */
    private static void votesOfLikeNumber() {
        Sentence s = says("PROPOSED for a PAGE in a FIELD that is LEARNT is the OPINION with the most VOTES (of like ones that of the first RULE)");
        String pages = "page : 3 y 4 x end;";
        FieldCutter x = marked("field v;page : 1 a x end;page : 2 y end;" + pages, at(0, 0, 1, 3), at(1, 0, 1, 2));
        x.learn(0);
        s.due("opinions", x.opinion(2, 0, 0), 2);
        s.due("votes", x.opinion(2, 0, 1), 4);
        s.due("stop x is first", x.opinion(2, 0, 4), 4);
        // It is longer than any part: what is proposed is the other one.
        s.due("from", x.proposed(2, 0, 0, 0), 1);
        s.due("to", x.proposed(2, 0, 0, 1), 2);
        x = marked("field v;page : 2 y end;page : 1 a x end;" + pages, at(0, 0, 1, 2), at(1, 0, 1, 3));
        x.learn(0);
        s.due("votes", x.opinion(2, 0, 1), 4);
        s.due("stop y is first", x.opinion(2, 0, 4), 2);
        s.due("to", x.proposed(2, 0, 0, 1), 2);
    }

    // ---- DRIFT ----

    private static void drifts() {
        Sentence s = says("1 it is not CUT; 2 a part has fewer or more TOKENS than SHAPE; 3 the first TOKEN of one is of a KIND that is not in it; 4 the last one; 5 one at a place below the fewest is of another KIND than PATTERN has there (3: any is right); 0 none of these");
        FieldCutter x = marked("field v;page : 1 a 2 . end;page : 3 b 4 5 . end;page : 1 . end;page : 1 a 2 3 4 . end;"
                + "page : b a 2 . end;page : 1 a b . end;", at(0, 0, 1, 4), at(1, 0, 1, 5));
        x.learn(0);
        int[] drifts = {0, 0, 2, 2, 3, 4};
        for (int p = 0; p < 6; p++) {
            s.due("drift(" + p + ",0)", x.drift(p, 0), drifts[p]);
        }
        x = marked("field v;page : 1 a 2 . end;page : 1 2 3 . end;page : 1 , 3 . end;page q end;page : 1 a 2 end;",
                at(0, 0, 1, 4));
        x.learn(0);
        int[] more = {0, 5, 5, 1, 1};
        for (int p = 0; p < 5; p++) {
            s.due("drift(" + p + ",0)", x.drift(p, 0), more[p]);
        }
        x.mark(1, 0, 1, 4);
        x.learn(0);
        s.due("3: a word is right", x.drift(0, 0), 0);
        s.due("3: a number is right", x.drift(1, 0), 0);
        s.due("3: a sign, too", x.drift(2, 0), 0);
        // A place at the fewest or above has no pattern.
        x = marked("field v;page : 1 . end;page : 1 a 2 . end;page : 1 , 3 . end;", at(0, 0, 1, 2), at(1, 0, 1, 4));
        x.learn(0);
        s.due("not below the fewest", x.drift(2, 0), 0);
    }

    private static void leastDrift() {
        Sentence s = says("0 none of these (the least that holds)");
        // The part 'a 2' is too long, begins and ends otherwise.
        FieldCutter x = marked("field v;page : 1 . end;page : a b . end;page : a . end;", at(0, 0, 1, 2));
        x.learn(0);
        s.due("2, 3 and 4 hold", x.drift(1, 0), 2);
        s.due("3, 4 and 5 hold", x.drift(2, 0), 3);
        x = marked("field v;page : 1 2 . end;page : 1 a . end;", at(0, 0, 1, 3));
        x.learn(0);
        s.due("4 and 5 hold", x.drift(1, 0), 4);
        // Of several parts that of any.
        x = marked("field w many;page : 1 . : 2 . end;page : a . : 2 2 . end;page : 2 2 . : a . end;page : 1 . : a . end;",
                at(0, 0, 1, 2), at(0, 0, 4, 5));
        x.learn(0);
        s.due("3 of the first, 2 of the second", x.drift(1, 0), 2);
        s.due("2 of the first, 3 of the second", x.drift(2, 0), 2);
        s.due("none of the first, 3 of the second", x.drift(3, 0), 3);
    }

    private static void proposed() {
        Sentence s = says("of those that have parts, each of no DRIFT 2 to 5.");
        FieldCutter x = marked("field v;page a : 1 end;page b : 2 3 end;page c : d end;page e end;page a 7 : 8 end;page a 5 end;",
                at(0, 0, 2, 3));
        x.learn(0);
        s.due("no drift", x.proposed(0, 0, N, 0), 1);
        s.due("drift 2", x.proposed(1, 0, N, 0), -1);
        s.due("drift 3", x.proposed(2, 0, N, 0), -1);
        s.due("no parts", x.proposed(3, 0, N, 0), -1);
        s.due("no parts have the most votes", x.opinion(5, 0, 2), 0);
        x = marked("field v;page a : 1 end;page a 7 : 8 end;page a 7 end;page a : 9 a end;", at(0, 0, 2, 3));
        x.learn(0);
        s.due("those with near a and : are silent", x.opinion(1, 0, 0), 2);
        s.due("from", x.proposed(1, 0, 0, 0), 3);
        s.due("drift 4", x.proposed(3, 0, N, 0), -1);
        Sentence learnt = says("PROPOSED for a PAGE in a FIELD that is LEARNT");
        x = marked("field v;page a : 1 end;page b : 2 end;", at(0, 0, 2, 3));
        learnt.due("not learnt", x.proposed(1, 0, N, 0), -1);
        x.learn(0);
        learnt.due("learnt", x.proposed(1, 0, N, 0), 1);
        x.undo();
        learnt.due("not learnt again", x.proposed(1, 0, N, 0), -1);
    }

    // ---- ACTS ----

    private static void acts() {
        Sentence s = says("ACTS: a MARK is put or taken, a FIELD is LEARNT, what is PROPOSED is taken, a PAGE more.");
        FieldCutter x = Due.read("field v;page a : 1 end;page b : 2 end;");
        s.due("none", x.about(5), 0);
        x.mark(0, 0, 0, 1);
        s.due("mark", x.about(5), 1);
        x.unmark(0, 0);
        s.due("unmark", x.about(5), 2);
        x.mark(0, 0, 2, 3);
        x.learn(0);
        s.due("learn", x.about(5), 4);
        x.take(1, 0);
        s.due("take", x.about(5), 5);
        Due.tell(x, "page c : 3 end;");
        s.due("feed and end are none", x.about(5), 5);
        x.page();
        s.due("page", x.about(5), 6);
        x.image(0);
        s.due("image is none", x.about(5), 6);
        x.undo();
        s.due("undo takes one back", x.about(5), 5);
        x.redo();
        s.due("redo does it again", x.about(5), 6);
        Sentence undo = says("UNDO takes back the latest ACT that was not, REDO does that again which was taken back last (till another ACT)");
        int[] pages = {2, 2, 2, 2, 2, 2};
        int[] parts = {2, 1, 1, 0, 1, 0};
        int[] learnt = {1, 1, 0, 0, 0, 0};
        for (int k = 0; k < 6; k++) {
            undo.due("undo " + k, x.undo(), true);
            undo.due("pages", x.about(1), pages[k]);
            undo.due("parts", x.about(3), parts[k]);
            undo.due("learnt", x.about(4), learnt[k]);
            undo.due("to be done again", x.about(6), k + 1);
        }
        undo.due("no more", x.undo(), false);
        for (int k = 4; k >= 0; k--) {
            undo.due("redo", x.redo(), true);
            undo.due("parts", x.about(3), parts[k]);
            undo.due("learnt", x.about(4), learnt[k]);
        }
        undo.due("redo", x.redo(), true);
        undo.due("pages", x.about(1), 3);
        undo.due("its tokens", x.token(2, 2, 1), 6);
        undo.due("no more", x.redo(), false);
        x.undo();
        x.learn(0);
        undo.due("another act", x.redo(), false);
        undo.due("pages", x.about(1), 2);
    }

    private static void sixteen() {
        Sentence s = says("16 at most are kept, the oldest go.");
        FieldCutter x = Due.read("field w many;page" + FORTY + " end;page" + FORTY + " end;page" + FORTY + " end;");
        for (int k = 0; k < 20; k++) {
            x.mark(k / 8, 0, 4 * (k % 8), 4 * (k % 8) + 1);
            s.due("kept behind mark " + k, x.about(5), Math.min(16, k + 1));
        }
        for (int k = 1; k <= 16; k++) {
            s.due("undo " + k, x.undo(), true);
            s.due("parts", x.about(3), 20 - k);
        }
        s.due("a 17th", x.undo(), false);
        s.due("parts", x.about(3), 4);
        for (int k = 1; k <= 16; k++) {
            s.due("redo " + k, x.redo(), true);
        }
        s.due("a 17th", x.redo(), false);
        s.due("parts", x.about(3), 20);
        // What is done behind the oldest goes on to be kept.
        for (int k = 0; k < 10; k++) {
            x.undo();
        }
        x.mark(2, 0, 38, 40);
        s.due("kept", x.about(5), 7);
        s.due("none to redo", x.about(6), 0);
        for (int k = 0; k < 7; k++) {
            s.due("undo", x.undo(), true);
        }
        s.due("no more", x.undo(), false);
        s.due("parts", x.about(3), 4);
    }
}
