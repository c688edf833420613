/** The edges that the document names of promises 10 to 40, sentence by sentence. */
public final class CallEdgesTest {
    private static final int N = FieldCutter.NONE;
    /** NUMBERS: a 0, : 1, 1 2, b 3, 2 4, 3 5, c 6. */
    private static final String PLAIN = "field v;page a : 1 end;page b : 2 3 end;page c end;";
    private static final String NEST =
            "field row;field cell of row;page x # 1 = 2 # y end;page x # 3 = 4 # y end;page z end;";
    private static final String LIST = "field w many;page a 1 , a 2 , a 3 , end;page a 1 , a 2 end;";
    private static final String CLASH = "field v;page a b end;page a b end;";
    private static final String TURNED =
            "field v;page name apple cost 12 end;page name pear cost 7 end;page cost 5 name fig end;";

    public static void main(String[] args) {
        mark();
        markWithin();
        unmark();
        learn();
        take();
        takeWithin();
        undo();
        redo();
        marked();
        rule();
        tries();
        could();
        cover();
        contradict();
        stale();
        cut();
        by();
        letter();
        longestLetters();
        pattern();
        proposed();
        alike();
        drift();
        strange();
        sturdy();
        sturdyWithin();
        right();
        enough();
        opinion();
        next();
        without();
        image();
        back();
        backRefused();
        about();
        Sentence.allOf(10, 40);
        Due.finish("CallEdgesTest");
    }

    private static Sentence promises(int promise, String text) {
        return Sentence.promises(promise, text);
    }

    private static FieldCutter marked(String text, int[]... marks) {
        FieldCutter x = Due.read(text);
        for (int[] m : marks) {
            Due.due("mark in [" + text + "]", x.mark(m[0], m[1], m[2], m[3]) > 0, true);
        }
        return x;
    }

    private static int[] at(int page, int field, int from, int to) {
        return new int[] {page, field, from, to};
    }

    // ---- 10, 11 ----

    private static void mark() {
        Sentence s = promises(10,
                "A part is MARKED (of a FIELD told with many one more): how many parts there are then");
        FieldCutter x = Due.read("field v;" + LIST);
        s.due("one", x.mark(1, 0, 4, 5), 1);
        s.due("the first", x.mark(1, 1, 1, 2), 1);
        s.due("one more", x.mark(1, 1, 4, 5), 2);
        s.due("on another page the first", x.mark(0, 1, 0, 1), 1);
        s.due("all", x.about(3), 4);
        Sentence none = promises(10,
                "NONE, doing nothing, if it can't be (no such FIELD, PAGE, TOKENS; a part there already, or 8; not behind all that are; not within its PARENT's MARK, or that is none).");
        int[][] bad = {{0, 0, 0, 0}, {0, 0, 5, 4}, {0, 0, -1, 1}, {0, 0, 8, 10}, {0, 0, 9, 10}, {2, 0, 0, 1}, {-1, 0,
                0, 1},
            {0, 2, 0, 1}, {0, -1, 0, 1}, {1, 0, 0, 1}, {1, 0, 4, 5}, {1, 1, 4, 5}, {1, 1, 0, 1}, {1, 1, 3, 5}, {0, 1,
                    0, 2},
            {0, 0, Integer.MIN_VALUE, Integer.MAX_VALUE}, {0, 0, Integer.MAX_VALUE, Integer.MIN_VALUE}, {0, 0, 0,
                    Integer.MAX_VALUE}};
        for (int[] b : bad) {
            none.due("mark(" + b[0] + "," + b[1] + "," + b[2] + "," + b[3] + ")", x.mark(b[0], b[1], b[2], b[3]), -1);
        }
        none.due("all", x.about(3), 4);
        none.due("acts", x.about(5), 4);
        none.due("the last act is the last mark", x.undo(), true);
        none.due("all but it", x.about(3), 3);
        // What was marked once leaves no trace.
        x = marked(PLAIN, at(1, 0, 3, 4));
        x.unmark(1, 0);
        none.due("anew, ahead of it", x.mark(1, 0, 0, 2), 1);
        none.due("from", x.marked(1, 0, 0, 0), 0);
        none.due("to", x.marked(1, 0, 0, 1), 2);
        none.due("no second", x.marked(1, 0, 1, 1), -1);
        x = marked(LIST, at(0, 0, 4, 5), at(0, 0, 7, 8));
        x.unmark(0, 0);
        none.due("anew, ahead of both", x.mark(0, 0, 1, 2), 1);
        none.due("behind it", x.mark(0, 0, 2, 4), 2);
        none.due("to", x.marked(0, 0, 1, 1), 4);
    }

    private static void markWithin() {
        Sentence s = promises(10, "not within its PARENT's MARK, or that is none");
        FieldCutter x = Due.read("field a;field b of a;field c of b many;page 0 1 2 3 4 5 end;page 0 1 end;");
        s.due("no parent's mark", x.mark(0, 1, 2, 3), -1);
        x.mark(0, 0, 1, 5);
        s.due("that of another page", x.mark(1, 1, 0, 1), -1);
        s.due("no mark of its own parent", x.mark(0, 2, 2, 3), -1);
        s.due("one ahead", x.mark(0, 1, 0, 5), -1);
        s.due("one behind", x.mark(0, 1, 1, 6), -1);
        s.due("within", x.mark(0, 1, 2, 4), 1);
        s.due("within the outer one alone", x.mark(0, 2, 1, 2), -1);
        s.due("the first", x.mark(0, 2, 2, 3), 1);
        s.due("behind the inner one", x.mark(0, 2, 4, 5), -1);
        s.due("the second", x.mark(0, 2, 3, 4), 2);
        s.due("acts", x.about(5), 4);
    }

    private static void unmark() {
        Sentence s = promises(11,
                "MARKS of a FIELD on a PAGE are taken, and those of FIELDS whose PARENT it is, and so on: how many parts in all");
        String text = "field a;field b of a;field c of b many;field d of a;page 0 1 2 3 4 end;page 0 1 2 end;";
        int[][] marks = {at(0, 0, 0, 5), at(0, 1, 1, 4), at(0, 2, 1, 2), at(0, 2, 2, 3), at(0, 2, 3, 4), at(0, 3, 0,
                1), at(1, 0, 0, 1)};
        int[] taken = {6, 4, 3, 1};
        for (int f = 0; f < 4; f++) {
            FieldCutter x = marked(text, marks);
            s.due("unmark(0," + f + ")", x.unmark(0, f), taken[f]);
            s.due("left", x.about(3), 7 - taken[f]);
            s.due("its mark", x.marked(0, f, N, 0), 0);
            s.due("of page 1", x.marked(1, 0, N, 0), 1);
            s.due("acts", x.about(5), 8);
            x.undo();
            s.due("as it was", x.about(3), 7);
        }
        Sentence none = promises(11, "NONE, doing nothing, if there are none such.");
        FieldCutter x = marked(text, marks);
        int[][] bad = {{1, 1}, {1, 2}, {2, 0}, {-1, 0}, {6, 0}, {0, 4}, {0, -1}, {Integer.MAX_VALUE, 0}, {0,
                Integer.MIN_VALUE}};
        for (int[] b : bad) {
            none.due("unmark(" + b[0] + "," + b[1] + ")", x.unmark(b[0], b[1]), -1);
        }
        none.due("left", x.about(3), 7);
        none.due("acts", x.about(5), 7);
        none.due("once", x.unmark(1, 0), 1);
        none.due("twice", x.unmark(1, 0), -1);
    }

    // ---- 12, 13 ----

    private static void learn() {
        Sentence s = promises(12, "A FIELD is LEARNT: how many RULES");
        FieldCutter x = marked(TURNED, at(0, 0, 3, 4));
        s.due("one", x.learn(0), 1);
        x.mark(2, 0, 1, 2);
        s.due("two", x.learn(0), 2);
        x = marked(CLASH, at(0, 0, 0, 1), at(1, 0, 1, 2));
        s.due("none", x.learn(0), 0);
        s.due("it is learnt", x.about(4), 1);
        Sentence none = promises(12, "NONE, doing nothing, if there is none such, or it has no EXAMPLE.");
        x = Due.read(PLAIN);
        for (int f : new int[] {0, 1, -1, 4, Integer.MIN_VALUE, Integer.MAX_VALUE}) {
            none.due("learn(" + f + ")", x.learn(f), -1);
        }
        none.due("acts", x.about(5), 0);
        x.mark(0, 0, 2, 3);
        x.learn(0);
        x.unmark(0, 0);
        none.due("no example any more", x.learn(0), -1);
        none.due("what was learnt stays", x.rule(0, 0, 1), 4);
        none.due("acts", x.about(5), 3);
        Sentence act = promises(12, "(An ACT, even if it stays as it was.)");
        x.undo();
        act.due("acts", x.about(5), 2);
        act.due("learn", x.learn(0), 1);
        act.due("acts", x.about(5), 3);
        act.due("nothing to redo", x.redo(), false);
        act.due("undo", x.undo(), true);
        act.due("it is learnt as ahead of it", x.about(4), 1);
    }

    private static void take() {
        Sentence s = promises(13,
                "What is PROPOSED for a PAGE that is no EXAMPLE is its MARK, the FIELD is LEARNT anew: how many RULES");
        FieldCutter x = marked("field v;page a : 1 end;page b : 2 end;page a b end;", at(0, 0, 2, 3));
        x.learn(0);
        s.due("take", x.take(1, 0), 1);
        s.due("from", x.marked(1, 0, 0, 0), 2);
        s.due("to", x.marked(1, 0, 0, 1), 3);
        s.due("examples", x.field(0, 2), 3);
        s.due("learnt anew", x.stale(0), 0);
        Sentence act = promises(13, "(One ACT.)");
        act.due("acts", x.about(5), 3);
        x.undo();
        act.due("examples", x.field(0, 2), 1);
        act.due("stale", x.stale(0), 0);
        x.redo();
        act.due("examples", x.field(0, 2), 3);
        // What was learnt was of another example: to take learns of all that there are.
        x = marked(TURNED, at(0, 0, 3, 4));
        x.learn(0);
        x.mark(2, 0, 1, 2);
        s.due("one rule", x.field(0, 3), 1);
        s.due("proposed", x.proposed(1, 0, 0, 0), 3);
        s.due("take", x.take(1, 0), 2);
        s.due("two rules", x.field(0, 3), 2);
        Sentence none = promises(13, "NONE, doing nothing, if nothing is PROPOSED, it is an EXAMPLE");
        x = marked(PLAIN, at(0, 0, 2, 3));
        none.due("nothing is learnt", x.take(1, 0), -1);
        x.learn(0);
        none.due("an example", x.take(0, 0), -1);
        none.due("of drift 2", x.take(1, 0), -1);
        none.due("without parts", x.take(2, 0), -1);
        int[][] bad = {{3, 0}, {-1, 0}, {6, 0}, {1, 1}, {1, -1}, {Integer.MIN_VALUE, 0}, {1, Integer.MAX_VALUE}};
        for (int[] b : bad) {
            none.due("take(" + b[0] + "," + b[1] + ")", x.take(b[0], b[1]), -1);
        }
        none.due("acts", x.about(5), 2);
        none.due("parts", x.about(3), 1);
        // A row of several parts is taken as it is.
        x = marked("field w many;page a 1 , a 2 , end;page a 3 , a 4 , a 5 , end;", at(0, 0, 1, 2), at(0, 0, 4, 5));
        x.learn(0);
        s.due("take", x.take(1, 0), 1);
        s.due("three parts", x.marked(1, 0, N, 0), 3);
        s.due("to of the third", x.marked(1, 0, 2, 1), 8);
    }

    private static void takeWithin() {
        Sentence s = promises(13, "or (its FIELD has a PARENT) it is not within the PARENT's MARK there.");
        FieldCutter x = marked(NEST, at(0, 0, 2, 5), at(0, 1, 4, 5));
        x.learn(0);
        x.learn(1);
        s.due("proposed", x.proposed(1, 1, 0, 0), 4);
        s.due("the parent has no mark", x.take(1, 1), -1);
        int[][] marks = {{2, 4}, {5, 6}, {3, 4}, {0, 3}};
        for (int[] m : marks) {
            x.mark(1, 0, m[0], m[1]);
            s.due("outside " + m[0] + " to " + m[1], x.take(1, 1), -1);
            x.unmark(1, 0);
        }
        x.mark(1, 0, 4, 5);
        s.due("acts", x.about(5), 13);
        s.due("just within", x.take(1, 1) >= 0, true);
        s.due("from", x.marked(1, 1, 0, 0), 4);
        s.due("to", x.marked(1, 1, 0, 1), 5);
        s.due("acts", x.about(5), 14);
    }

    // ---- 14 to 16 ----

    private static void undo() {
        Sentence s = promises(14, "UNDO: true; false if there is none.");
        FieldCutter x = Due.read(PLAIN);
        s.due("of none", x.undo(), false);
        s.due("refused", x.mark(0, 0, 3, 4), -1);
        s.due("of a refused one", x.undo(), false);
        x.mark(0, 0, 0, 1);
        s.due("of one", x.undo(), true);
        s.due("again", x.undo(), false);
        s.due("about(6)", x.about(6), 1);
        s.due("not marked", x.field(0, 2), 0);
    }

    private static void redo() {
        Sentence s = promises(15, "REDO: true; false if there is none.");
        FieldCutter x = Due.read(PLAIN);
        s.due("of none", x.redo(), false);
        x.mark(0, 0, 0, 1);
        s.due("nothing was taken back", x.redo(), false);
        x.undo();
        s.due("a refused act", x.learn(0), -1);
        s.due("of one", x.redo(), true);
        s.due("again", x.redo(), false);
        s.due("marked", x.field(0, 2), 1);
        x.undo();
        x.mark(1, 0, 0, 1);
        s.due("another act", x.redo(), false);
        s.due("about(6)", x.about(6), 0);
    }

    private static void marked() {
        Sentence s = promises(16,
                "How many parts a MARK has (i NONE; what is no matter), of the i-th what 0: from, 1: to.");
        FieldCutter x = marked(LIST, at(0, 0, 1, 2), at(0, 0, 4, 6));
        for (int what : new int[] {0, 1, 2, -1, Integer.MIN_VALUE, Integer.MAX_VALUE}) {
            s.due("parts, what " + what, x.marked(0, 0, N, what), 2);
            s.due("parts of none, what " + what, x.marked(1, 0, N, what), 0);
        }
        int[][] parts = {{1, 2}, {4, 6}};
        for (int i = 0; i < 2; i++) {
            s.due("from of " + i, x.marked(0, 0, i, 0), parts[i][0]);
            s.due("to of " + i, x.marked(0, 0, i, 1), parts[i][1]);
        }
        Sentence none = promises(16, "NONE if there is none such, or for another what.");
        for (int i : new int[] {2, 8, -2, Integer.MIN_VALUE, Integer.MAX_VALUE}) {
            none.due("part " + i, x.marked(0, 0, i, 0), -1);
        }
        for (int what : new int[] {2, -1, Integer.MIN_VALUE, Integer.MAX_VALUE}) {
            none.due("what " + what, x.marked(0, 0, 0, what), -1);
        }
        none.due("a part of no mark", x.marked(1, 0, 0, 0), -1);
        for (int bad : new int[] {2, -1, 6, Integer.MIN_VALUE, Integer.MAX_VALUE}) {
            none.due("page " + bad, x.marked(bad, 0, N, 0), -1);
            none.due("field " + bad, x.marked(0, bad, N, 0), -1);
        }
    }

    // ---- 17 to 19 ----

    private static void rule() {
        Sentence s = promises(17, "Of the k-th LEARNT RULE (0 ..) what 0: FAR, 1, 2: NEAR, 3: STOP, 4: COST.");
        // Far a number near :, as the third : is the one; stop x.
        FieldCutter x = marked("field v;page a : : 1 x : 5 x end;page b : : 2 y : 6 x end;", at(0, 0, 6, 7), at(1, 0,
                6, 7));
        x.learn(0);
        int[] want = {1, 4, N, 6, 7};
        for (int what = 0; what < 5; what++) {
            s.due("rule(0,0," + what + ")", x.rule(0, 0, what), want[what]);
        }
        Sentence none = promises(17, "-2 if there is none such, or for another what.");
        for (int bad : new int[] {1, -1, 6, Integer.MIN_VALUE, Integer.MAX_VALUE}) {
            none.due("field " + bad, x.rule(bad, 0, 0), -2);
            none.due("rule " + bad, x.rule(0, bad, 0), -2);
        }
        for (int what : new int[] {-1, 5, 6, Integer.MIN_VALUE, Integer.MAX_VALUE}) {
            none.due("what " + what, x.rule(0, 0, what), -2);
        }
        x.undo();
        none.due("nothing is learnt", x.rule(0, 0, 0), -2);
        x = marked(CLASH, at(0, 0, 0, 1), at(1, 0, 1, 2));
        x.learn(0);
        none.due("learnt without rules", x.rule(0, 0, 0), -2);
    }

    private static void tries() {
        Sentence s = promises(18,
                "What a RULE told by ITEMS (or NONE each) is on an EXAMPLE: 0 SILENT, 1 RIGHT, 2 WRONG");
        FieldCutter x = marked(PLAIN, at(0, 0, 2, 3), at(1, 0, 0, 4));
        s.due("silent", x.tries(0, 0, N, 5, N, N), 0);
        s.due("right", x.tries(0, 0, N, 4, N, N), 1);
        s.due("wrong", x.tries(0, 0, N, 3, N, N), 2);
        s.due("NONE each, wrong", x.tries(0, 0, N, N, N, N), 2);
        s.due("NONE each, right", x.tries(1, 0, N, N, N, N), 1);
        s.due("one that can't be learnt", x.tries(0, 0, 4, N, N, N), 1);
        s.due("the last item", x.tries(0, 0, N, N, N, 9), 0);
        Sentence none = promises(18,
                "NONE if it is no EXAMPLE, or a RULE can't be so (an ITEM that there is not, a second NEAR without a first).");
        none.due("no example", x.tries(2, 0, N, N, N, N), -1);
        for (int bad : new int[] {3, -1, 6, Integer.MIN_VALUE, Integer.MAX_VALUE}) {
            none.due("page " + bad, x.tries(bad, 0, N, 4, N, N), -1);
        }
        for (int bad : new int[] {1, -1, 4, Integer.MIN_VALUE, Integer.MAX_VALUE}) {
            none.due("field " + bad, x.tries(0, bad, N, 4, N, N), -1);
        }
        for (int item : new int[] {10, -2, 243, 256, Integer.MIN_VALUE, Integer.MAX_VALUE}) {
            none.due("far " + item, x.tries(0, 0, item, 4, N, N), -1);
            none.due("near " + item, x.tries(0, 0, N, item, N, N), -1);
            none.due("second " + item, x.tries(0, 0, N, 3, item, N), -1);
            none.due("stop " + item, x.tries(0, 0, N, 4, N, item), -1);
        }
        none.due("second without first", x.tries(0, 0, N, N, 4, N), -1);
        none.due("second without first, with far and stop", x.tries(0, 0, 3, N, 4, 4), -1);
        x = marked(NEST, at(0, 0, 2, 5));
        none.due("no example of this field", x.tries(0, 1, N, N, N, N), -1);
    }

    private static void could() {
        Sentence s = promises(19, "How many unlike RULES can be (what 0), how many of these are GOOD (1)");
        FieldCutter x = Due.read(PLAIN);
        s.due("without examples", x.could(0, 0), 0);
        s.due("good ones", x.could(0, 1), 0);
        x.mark(0, 0, 2, 3);
        s.due("by one example", x.could(0, 0), 15);
        s.due("good ones", x.could(0, 1), 12);
        x.mark(1, 0, 2, 4);
        s.due("by two", x.could(0, 0), 20);
        Sentence none = promises(19, "NONE if there is no such FIELD, or for another what.");
        for (int bad : new int[] {1, -1, 4, Integer.MIN_VALUE, Integer.MAX_VALUE}) {
            none.due("field " + bad, x.could(bad, 0), -1);
            none.due("what " + (bad == 1 ? 2 : bad), x.could(0, bad == 1 ? 2 : bad), -1);
        }
    }

    // ---- 20 to 23 ----

    private static void cover() {
        Sentence s = promises(20,
                "Of the COVER now what 0: how many RULES, 1: COST together, 2: HOPELESS EXAMPLES, as bits.");
        FieldCutter x = Due.read(TURNED);
        for (int what = 0; what < 3; what++) {
            s.due("of no example: cover(0," + what + ")", x.cover(0, what), 0);
        }
        x.mark(0, 0, 3, 4);
        x.mark(2, 0, 1, 2);
        s.due("rules", x.cover(0, 0), 2);
        s.due("cost", x.cover(0, 1), 8);
        s.due("hopeless", x.cover(0, 2), 0);
        FieldCutter y = marked(CLASH, at(0, 0, 0, 1), at(1, 0, 1, 2));
        s.due("rules", y.cover(0, 0), 0);
        s.due("cost", y.cover(0, 1), 0);
        s.due("hopeless", y.cover(0, 2), 3);
        Sentence none = promises(20, "NONE if there is no such FIELD, or for another what.");
        for (int bad : new int[] {-1, 3, 4, Integer.MIN_VALUE, Integer.MAX_VALUE}) {
            none.due("field " + bad, x.cover(bad, 0), -1);
            none.due("what " + bad, x.cover(0, bad), -1);
        }
        none.due("field 1", x.cover(1, 0), -1);
        Sentence k = promises(21,
                "Of its k-th RULE (0 ..) as in rule(), what 5: EXAMPLES on which it is RIGHT, as bits.");
        int[][] rules = {{N, 4, 5, N, 4, 1}, {N, 5, N, 3, 4, 4}};
        for (int r = 0; r < 2; r++) {
            for (int what = 0; what < 6; what++) {
                k.due("covers(0," + r + "," + what + ")", x.covers(0, r, what), rules[r][what]);
            }
        }
        Sentence two = promises(21, "-2 likewise.");
        for (int bad : new int[] {2, -1, 4, Integer.MIN_VALUE, Integer.MAX_VALUE}) {
            two.due("rule " + bad, x.covers(0, bad, 0), -2);
            two.due("rule " + bad + ", what 5", x.covers(0, bad, 5), -2);
            two.due("field " + bad, x.covers(bad, 0, 0), -2);
        }
        two.due("field 1", x.covers(1, 0, 0), -2);
        for (int what : new int[] {-1, 6, 7, Integer.MIN_VALUE, Integer.MAX_VALUE}) {
            two.due("what " + what, x.covers(0, 0, what), -2);
        }
        two.due("of no rules", y.covers(0, 0, 5), -2);
    }

    private static void contradict() {
        Sentence s = promises(22, "1 if two EXAMPLES of a FIELD CONTRADICT one another, else 0");
        FieldCutter x = marked("field v;page a b end;page a b end;page a : 1 end;page q end;", at(0, 0, 0, 1), at(1, 0,
                1, 2),
                at(2, 0, 2, 3));
        s.due("they do", x.contradict(0, 0, 1), 1);
        s.due("the other way round", x.contradict(0, 1, 0), 1);
        s.due("they don't", x.contradict(0, 0, 2), 0);
        Sentence none = promises(22, "NONE if they are one, or are none.");
        for (int p = 0; p < 4; p++) {
            none.due("one: " + p, x.contradict(0, p, p), -1);
        }
        for (int bad : new int[] {3, 4, -1, 6, 32, Integer.MIN_VALUE, Integer.MAX_VALUE}) {
            none.due("page " + bad, x.contradict(0, bad, 0), -1);
            none.due("other " + bad, x.contradict(0, 0, bad), -1);
        }
        for (int bad : new int[] {1, -1, 4, Integer.MIN_VALUE, Integer.MAX_VALUE}) {
            none.due("field " + bad, x.contradict(bad, 0, 1), -1);
        }
    }

    private static void stale() {
        Sentence s = promises(23, "1 if what is LEARNT (RULES, SHAPE, PATTERN) is not what it would be now, else 0");
        FieldCutter x = marked("field v;page a : 1 end;page b : 2 end;page b : x end;page b : 2 3 end;page b # 2 end;",
                at(0, 0, 2, 3));
        x.learn(0);
        s.due("as learnt", x.stale(0), 0);
        int[][] marks = {{1, 2, 3, 0}, {2, 2, 3, 1}, {3, 2, 4, 1}, {4, 2, 3, 1}};
        for (int[] m : marks) {
            x.mark(m[0], 0, m[1], m[2]);
            s.due("page " + m[0] + ", too", x.stale(0), m[3]);
            x.undo();
        }
        // The same cover, the same lengths and kinds of the ends: the pattern alone is another one.
        x = marked("field v;page : 1 a 1 . end;page : 2 3 2 . end;", at(0, 0, 1, 4));
        x.learn(0);
        x.mark(1, 0, 1, 4);
        s.due("the pattern", x.stale(0), 1);
        Sentence none = promises(23, "NONE if there is none such, nothing is LEARNT, or it has no EXAMPLE now.");
        x = marked(PLAIN, at(0, 0, 2, 3));
        none.due("nothing is learnt", x.stale(0), -1);
        x.learn(0);
        for (int bad : new int[] {1, -1, 4, Integer.MIN_VALUE, Integer.MAX_VALUE}) {
            none.due("field " + bad, x.stale(bad), -1);
        }
        x.unmark(0, 0);
        none.due("no example", x.stale(0), -1);
        x = marked(CLASH, at(0, 0, 0, 1), at(1, 0, 1, 2));
        x.learn(0);
        s.due("no rules, as learnt", x.stale(0), 0);
        x.unmark(1, 0);
        s.due("a rule now", x.stale(0), 1);
    }

    // ---- 24 to 26 ----

    private static void cut() {
        Sentence s = promises(24,
                "How many parts a PAGE is CUT in (i NONE; what is no matter), of the i-th what 0: from, 1: to.");
        FieldCutter x = marked(LIST, at(0, 0, 1, 2), at(0, 0, 4, 5), at(0, 0, 7, 8));
        Sentence none = promises(24, "NONE if there is none such, nothing is LEARNT, or for another what.");
        none.due("nothing is learnt", x.cut(0, 0, N, 0), -1);
        none.due("nothing is learnt", x.cut(0, 0, 0, 0), -1);
        x.learn(0);
        for (int what : new int[] {0, 1, 2, -1, Integer.MIN_VALUE, Integer.MAX_VALUE}) {
            s.due("parts, what " + what, x.cut(0, 0, N, what), 3);
        }
        for (int i = 0; i < 3; i++) {
            s.due("from of " + i, x.cut(0, 0, i, 0), 3 * i + 1);
            s.due("to of " + i, x.cut(0, 0, i, 1), 3 * i + 2);
        }
        for (int i : new int[] {3, 8, -2, Integer.MIN_VALUE, Integer.MAX_VALUE}) {
            none.due("part " + i, x.cut(0, 0, i, 0), -1);
        }
        for (int what : new int[] {2, -1, Integer.MIN_VALUE, Integer.MAX_VALUE}) {
            none.due("what " + what, x.cut(0, 0, 0, what), -1);
        }
        for (int bad : new int[] {2, -1, 6, Integer.MIN_VALUE, Integer.MAX_VALUE}) {
            none.due("page " + bad, x.cut(bad, 0, N, 0), -1);
            none.due("field " + bad, x.cut(0, bad, N, 0), -1);
        }
        x = marked(PLAIN, at(0, 0, 2, 3));
        x.learn(0);
        s.due("not cut", x.cut(2, 0, N, 0), 0);
        none.due("the first part of none", x.cut(2, 0, 0, 0), -1);
    }

    private static void by() {
        Sentence s = promises(25, "The k-th LEARNT RULE by which it is CUT; NONE if by none.");
        FieldCutter x = marked(TURNED, at(0, 0, 3, 4), at(2, 0, 1, 2));
        s.due("nothing is learnt", x.by(0, 0), -1);
        x.learn(0);
        s.due("the first", x.by(0, 0), 0);
        s.due("the second", x.by(2, 0), 1);
        s.due("none", x.by(1, 0), -1);
        for (int bad : new int[] {3, -1, 6, Integer.MIN_VALUE, Integer.MAX_VALUE}) {
            s.due("page " + bad, x.by(bad, 0), -1);
            s.due("field " + bad, x.by(0, bad), -1);
        }
        x = marked(NEST, at(0, 0, 2, 5), at(0, 1, 4, 5));
        x.learn(1);
        s.due("the parent is not learnt", x.by(0, 1), -1);
        x.learn(0);
        s.due("it is now", x.by(0, 1), 0);
        s.due("the parent is not cut", x.by(2, 1), -1);
    }

    private static void lettersAre(Sentence s, FieldCutter x, int page, String text) {
        s.due("how many of [" + text + "]", x.letter(page, 0, N), text.length());
        for (int i = 0; i < text.length(); i++) {
            s.due("letter " + i + " of [" + text + "]", x.letter(page, 0, i), text.charAt(i));
        }
        s.due("behind [" + text + "]", x.letter(page, 0, text.length()), -1);
    }

    private static void letter() {
        Sentence s = promises(26,
                "What is CUT as letters (TOKENS as they are told, a blank between two, a / between two parts): how many bytes (i NONE), the i-th.");
        FieldCutter x = marked("field w many;page a 1 b , a 02 , a / , end;page a 1 , q end;", at(0, 0, 1, 3), at(0, 0,
                5, 6), at(0, 0, 8, 9));
        Sentence none = promises(26, "NONE if there is none such, or nothing is CUT.");
        none.due("nothing is learnt", x.letter(0, 0, N), -1);
        x.learn(0);
        lettersAre(s, x, 0, "1 b/02//");
        lettersAre(s, x, 1, "1");
        for (int i : new int[] {8, -2, Integer.MIN_VALUE, Integer.MAX_VALUE}) {
            none.due("letter " + i, x.letter(0, 0, i), -1);
        }
        for (int bad : new int[] {2, -1, 6, Integer.MIN_VALUE, Integer.MAX_VALUE}) {
            none.due("page " + bad, x.letter(bad, 0, N), -1);
            none.due("field " + bad, x.letter(0, bad, N), -1);
            none.due("field " + bad, x.letter(0, bad, 0), -1);
        }
        x = marked("field v;page\nab:0012 / x end;", at(0, 0, 0, 5));
        x.learn(0);
        lettersAre(s, x, 0, "ab : 0012 / x");
        x = marked(PLAIN, at(0, 0, 2, 3));
        x.learn(0);
        none.due("not cut", x.letter(2, 0, N), -1);
        none.due("not cut", x.letter(2, 0, 0), -1);
    }

    /** Forty words of eight letters: as many bytes as can be. */
    private static void longestLetters() {
        Sentence s = promises(26, "how many bytes (i NONE), the i-th");
        StringBuilder text = new StringBuilder();
        for (int k = 0; k < 40; k++) {
            text.append(k > 0 ? " " : "").append("abcdef").append((char) ('a' + k / 20)).append((char) ('a' + k % 20));
        }
        FieldCutter x = marked("field v;page " + text + " end;", at(0, 0, 0, 40));
        x.learn(0);
        s.due("how many", x.letter(0, 0, N), 359);
        for (int i : new int[] {0, 7, 8, 9, 319, 320, 350, 357, 358}) {
            s.due("letter " + i, x.letter(0, 0, i), text.charAt(i));
        }
        s.due("letter 359", x.letter(0, 0, 359), -1);
    }

    // ---- 27 to 31 ----

    private static void pattern() {
        Sentence s = promises(27, "PATTERN at a place (0 ..)");
        FieldCutter x = marked("field v;field u;page : 1 a 2 . end;page : b a . end;", at(0, 0, 1, 4));
        Sentence none = promises(27, "NONE if it has none there, nothing is LEARNT, or there is none such.");
        none.due("nothing is learnt", x.pattern(0, 0), -1);
        x.learn(0);
        int[] kinds = {1, 0, 1};
        for (int place = 0; place < 3; place++) {
            s.due("place " + place, x.pattern(0, place), kinds[place]);
        }
        for (int bad : new int[] {3, -1, 40, Integer.MIN_VALUE, Integer.MAX_VALUE}) {
            none.due("place " + bad, x.pattern(0, bad), -1);
        }
        for (int bad : new int[] {2, -1, 4, Integer.MIN_VALUE, Integer.MAX_VALUE}) {
            none.due("field " + bad, x.pattern(bad, 0), -1);
        }
        none.due("another field", x.pattern(1, 0), -1);
        x.mark(1, 0, 1, 3);
        s.due("not learnt anew", x.pattern(0, 0), 1);
        x.learn(0);
        s.due("unlike kinds", x.pattern(0, 0), 3);
        s.due("like kinds", x.pattern(0, 1), 0);
        none.due("not below the fewest", x.pattern(0, 2), -1);
    }

    private static void proposed() {
        Sentence s = promises(28, "What is PROPOSED: how many parts (i NONE), of the i-th what 0: from, 1: to");
        FieldCutter x = marked("field w many;page a 1 , a 2 , end;page a 3 , a 4 , a 5 , end;page q end;page a b , end;",
                at(0, 0, 1, 2), at(0, 0, 4, 5));
        Sentence none = promises(28, "NONE if nothing is, there is none such, nothing is LEARNT, or for another what.");
        none.due("nothing is learnt", x.proposed(1, 0, N, 0), -1);
        x.learn(0);
        s.due("parts", x.proposed(1, 0, N, 0), 3);
        for (int i = 0; i < 3; i++) {
            s.due("from of " + i, x.proposed(1, 0, i, 0), 3 * i + 1);
            s.due("to of " + i, x.proposed(1, 0, i, 1), 3 * i + 2);
        }
        s.due("an example, too", x.proposed(0, 0, N, 0), 2);
        none.due("nothing is cut", x.proposed(2, 0, N, 0), -1);
        none.due("nothing is cut", x.proposed(2, 0, 0, 0), -1);
        none.due("of drift", x.proposed(3, 0, N, 0), -1);
        for (int i : new int[] {3, -2, Integer.MIN_VALUE, Integer.MAX_VALUE}) {
            none.due("part " + i, x.proposed(1, 0, i, 0), -1);
        }
        for (int what : new int[] {2, -1, Integer.MIN_VALUE, Integer.MAX_VALUE}) {
            none.due("what " + what, x.proposed(1, 0, 0, what), -1);
        }
        for (int bad : new int[] {4, -1, 6, Integer.MIN_VALUE, Integer.MAX_VALUE}) {
            none.due("page " + bad, x.proposed(bad, 0, N, 0), -1);
            none.due("field " + bad, x.proposed(1, bad, N, 0), -1);
        }
        none.due("field 1", x.proposed(1, 1, N, 0), -1);
    }

    private static void alike() {
        Sentence s = promises(29, "The least PAGE that is CUT to the same letters as one");
        FieldCutter x = marked("field v;page q end;page a : 1 2 end;page b : 12 end;page c : 1 2 end;page a : 01 2 end;page d : 12 end;",
                at(1, 0, 2, 4));
        Sentence none = promises(29, "NONE if that is not CUT, there is none such, or nothing is LEARNT.");
        none.due("nothing is learnt", x.alike(1, 0), -1);
        x.learn(0);
        int[] want = {-1, 1, 2, 1, 4, 2};
        for (int p = 0; p < 6; p++) {
            (want[p] < 0 ? none : s).due("alike(" + p + ",0)", x.alike(p, 0), want[p]);
        }
        for (int bad : new int[] {6, -1, 32, Integer.MIN_VALUE, Integer.MAX_VALUE}) {
            none.due("page " + bad, x.alike(bad, 0), -1);
            none.due("field " + bad, x.alike(1, bad), -1);
        }
        none.due("field 1", x.alike(1, 1), -1);
        // The letters begin alike, but one has more of them; a / of parts is not the sign with its blanks.
        x = marked("field w many;page a 1 , a 2 , end;page a 1 , end;page a 1 / 2 , end;page a 2 , end;", at(0, 0, 1,
                2), at(0, 0, 4, 5));
        x.learn(0);
        for (int p = 0; p < 4; p++) {
            s.due("parts: alike(" + p + ",0)", x.alike(p, 0), p);
        }
    }

    private static void drift() {
        Sentence s = promises(30, "DRIFT; NONE if there is none such, or nothing is LEARNT.");
        FieldCutter x = marked(PLAIN, at(0, 0, 2, 3));
        s.due("nothing is learnt", x.drift(0, 0), -1);
        x.learn(0);
        s.due("0", x.drift(0, 0), 0);
        s.due("2", x.drift(1, 0), 2);
        s.due("1", x.drift(2, 0), 1);
        for (int bad : new int[] {3, -1, 6, Integer.MIN_VALUE, Integer.MAX_VALUE}) {
            s.due("page " + bad, x.drift(bad, 0), -1);
            s.due("field " + bad, x.drift(0, bad), -1);
        }
        s.due("field 1", x.drift(0, 1), -1);
        x = marked(CLASH, at(0, 0, 0, 1), at(1, 0, 1, 2));
        x.learn(0);
        s.due("learnt without rules", x.drift(0, 0), 1);
    }

    private static void strange() {
        Sentence s = promises(31,
                "The first PAGE (what 0), the FIELD (1) of those that are LEARNT with a DRIFT, by PAGES, then FIELDS");
        Sentence none = promises(31, "NONE if there is none, or for another what.");
        FieldCutter x = Due.read("field v;field u;page a : 1 end;page a : 2 end;page b 7 end;");
        none.due("no field is learnt", x.strange(0), -1);
        none.due("no field is learnt", x.strange(1), -1);
        x.mark(0, 0, 2, 3);
        x.mark(0, 1, 0, 1);
        x.mark(2, 1, 0, 1);
        x.learn(1);
        none.due("none has a drift", x.strange(0), -1);
        none.due("none has a drift", x.strange(1), -1);
        x.learn(0);
        s.due("page", x.strange(0), 2);
        s.due("field", x.strange(1), 0);
        for (int bad : new int[] {2, -1, Integer.MIN_VALUE, Integer.MAX_VALUE}) {
            none.due("what " + bad, x.strange(bad), -1);
        }
        // Field 1 drifts on page 1 (near a), field 0 on page 2 (near :): pages are ahead of fields.
        x = marked("field v;field u;page a : 1 end;page b : 2 end;page q end;", at(0, 0, 2, 3), at(0, 1, 1, 3));
        x.learn(0);
        x.learn(1);
        s.due("page", x.strange(0), 1);
        s.due("field", x.strange(1), 1);
        // Both drift on page 2, neither ahead of it.
        x = marked("field v;field u;page a : 1 end;page b : 2 end;page q end;", at(0, 0, 2, 3), at(0, 1, 2, 3));
        x.learn(1);
        s.due("page, field 0 being not learnt", x.strange(0), 2);
        s.due("field, field 0 being not learnt", x.strange(1), 1);
        x.learn(0);
        s.due("page", x.strange(0), 2);
        s.due("field", x.strange(1), 0);
        x = marked("field v;field u;page a b end;page a b end;", at(0, 0, 0, 2), at(0, 1, 0, 1), at(1, 1, 1, 2));
        x.learn(0);
        x.learn(1);
        s.due("the first page", x.strange(0), 0);
        s.due("the last field", x.strange(1), 1);
    }

    // ---- 32 to 34 ----

    private static void sturdy() {
        Sentence s = promises(32,
                "How many of its TOKENS, each left out alone, leave all its letters the same; NONE if there is none such, or it is not CUT.");
        FieldCutter x = marked(PLAIN, at(0, 0, 2, 3));
        s.due("nothing is learnt", x.sturdy(0, 0), -1);
        x.learn(0);
        s.due("a alone", x.sturdy(0, 0), 1);
        s.due("b alone", x.sturdy(1, 0), 1);
        s.due("not cut", x.sturdy(2, 0), -1);
        for (int bad : new int[] {3, -1, 6, Integer.MIN_VALUE, Integer.MAX_VALUE}) {
            s.due("page " + bad, x.sturdy(bad, 0), -1);
            s.due("field " + bad, x.sturdy(0, bad), -1);
        }
        x = marked("field v;page 1 end;", at(0, 0, 0, 1));
        x.learn(0);
        s.due("the only token", x.sturdy(0, 0), 0);
        // Near :, stop 2: without 1 the part is the first 2, without either 2 it stays.
        x = marked("field v;page : 1 2 2 end;", at(0, 0, 1, 2));
        x.learn(0);
        s.due("another token comes into its place", x.sturdy(0, 0), 2);
        // Without the first 1 the second one is cut: the letters are the same.
        x = marked("field v;page : 1 1 . end;page : 1 . end;", at(1, 0, 1, 2));
        x.learn(0);
        s.due("to", x.cut(0, 0, 0, 1), 3);
        s.due("a part of two like ones", x.sturdy(0, 0), 0);
        x = marked("field v;page : 7 : 7 . end;", at(0, 0, 1, 2));
        x.learn(0);
        s.due("stop :", x.rule(0, 0, 3), 3);
        s.due("without the first 7 the part is another", x.sturdy(0, 0), 2);
        // Forty tokens, all but the near one and the cut one can go.
        x = Due.read("field v;page" + " 1".repeat(37) + " : 2 . end;");
        x.mark(0, 0, 38, 39);
        x.learn(0);
        s.due("near : and stop .", x.rule(0, 0, 4), 4);
        s.due("37 of forty", x.sturdy(0, 0), 37);
    }

    private static void sturdyWithin() {
        Sentence s = promises(32, "each left out alone, leave all its letters the same");
        FieldCutter x = marked(NEST, at(0, 0, 2, 5), at(0, 1, 4, 5));
        x.learn(0);
        x.learn(1);
        // The row stands between two #: without either its part is another one, or none; x, 1 and y may go.
        s.due("the parent is cut anew", x.sturdy(0, 1), 3);
        s.due("the parent itself: x and y", x.sturdy(0, 0), 2);
        s.due("not cut", x.sturdy(2, 1), -1);
    }

    private static void right() {
        Sentence s = promises(33,
                "In how many EXAMPLES a FIELD would be CUT as it is MARKED (by its own LEARNT RULES, in its PARENT's MARK)");
        FieldCutter x = marked(TURNED, at(0, 0, 3, 4));
        Sentence none = promises(33, "NONE if there is none such, or nothing is LEARNT.");
        none.due("nothing is learnt", x.right(0), -1);
        x.learn(0);
        s.due("one", x.right(0), 1);
        x.mark(1, 0, 2, 3);
        s.due("one of two", x.right(0), 1);
        x.unmark(0, 0);
        s.due("none of one", x.right(0), 0);
        x.unmark(1, 0);
        s.due("none of none", x.right(0), 0);
        for (int bad : new int[] {1, -1, 4, Integer.MIN_VALUE, Integer.MAX_VALUE}) {
            none.due("field " + bad, x.right(bad), -1);
        }
        x = marked(NEST, at(0, 0, 2, 5), at(0, 1, 4, 5), at(1, 0, 2, 5), at(1, 1, 2, 3));
        x.unmark(1, 1);
        x.learn(1);
        s.due("without the parent's rules", x.right(1), 1);
        x.mark(1, 1, 4, 5);
        s.due("on the other page, too", x.right(1), 2);
        x.unmark(1, 0);
        s.due("its mark went with the parent's", x.right(1), 1);
    }

    private static void enough() {
        Sentence s = promises(34,
                "The fewest EXAMPLES by which alone the COVER would be RIGHT on all EXAMPLES of a FIELD (by its first RULE that is not SILENT)");
        FieldCutter x = marked(TURNED, at(2, 0, 1, 2));
        s.due("the only one", x.enough(0), 4);
        x.mark(0, 0, 3, 4);
        s.due("both", x.enough(0), 5);
        // By page 0 alone near : is the rule, wrong on page 1; by page 1 alone near b and :, silent on page 0.
        x = marked("field v;page a : 1 end;page : b : 2 end;", at(0, 0, 2, 3), at(1, 0, 3, 4));
        s.due("one rule", x.cover(0, 0), 1);
        s.due("both", x.enough(0), 3);
        // By page 0 alone near : is the rule, wrong on page 1; by page 1 alone near a and :, right on both.
        x = marked("field v;page a : 1 end;page : a : 2 end;", at(0, 0, 2, 3), at(1, 0, 3, 4));
        s.due("the second alone", x.enough(0), 2);
        Sentence like = promises(34, "of like ones the least set, as bits");
        x = marked(PLAIN, at(1, 0, 2, 4), at(0, 0, 2, 3));
        like.due("either", x.enough(0), 1);
        x = marked("field v;page a : 1 end;page b # 2 end;page c : 3 end;page d # 4 end;", at(0, 0, 2, 3), at(1, 0, 2,
                3), at(2, 0, 2, 3),
                at(3, 0, 2, 3));
        // By one alone the rule names its sign; by one of either kind of page it is near any sign.
        like.due("0 and 1 of 0 and 1, 0 and 3, 1 and 2, 2 and 3", x.enough(0), 3);
        Sentence zero = promises(34, "0 if there is no such set");
        x = marked(CLASH, at(0, 0, 0, 1), at(1, 0, 1, 2));
        zero.due("a clash", x.enough(0), 0);
        // Stop : (page 0), then near : (page 1) are right on these; on page 2 stop : is not silent, but wrong.
        x = marked("field v;page # : end;page : # end;page : : end;", at(0, 0, 0, 1), at(1, 0, 1, 2));
        s.due("both", x.enough(0), 3);
        x.mark(2, 0, 1, 2);
        zero.due("a later rule would be right", x.enough(0), 0);
        Sentence none = promises(34, "NONE if there is none such, or it has none.");
        for (int bad : new int[] {1, -1, 4, Integer.MIN_VALUE, Integer.MAX_VALUE}) {
            none.due("field " + bad, x.enough(bad), -1);
        }
        none.due("no example", Due.read(PLAIN).enough(0), -1);
    }

    // ---- 35 to 37 ----

    private static void opinion() {
        Sentence s = promises(35,
                "OPINIONS of a PAGE what 0: how many, 1: VOTES of that with the most (of like ones that of the first RULE by their order), 2: its parts, 3: from, 4: to of its first one (NONE).");
        Sentence all = promises(35, "all but what 0 if there is none.");
        FieldCutter x = Due.read(PLAIN);
        for (int what = 0; what < 5; what++) {
            all.due("without rules: what " + what, x.opinion(1, 0, what), what == 0 ? 0 : -1);
        }
        x.mark(0, 0, 2, 3);
        int[][] want = {{1, 12, 1, 2, 3}, {2, 8, 1, 2, 4}, {1, 12, 0, -1, -1}};
        for (int p = 0; p < 3; p++) {
            for (int what = 0; what < 5; what++) {
                s.due("opinion(" + p + ",0," + what + ")", x.opinion(p, 0, what), want[p][what]);
            }
        }
        // Near or far a as itself, near or far a as a word: two votes each; the first rule names a itself.
        x = marked("field v;page a 1 end;page b 2 a 3 end;", at(0, 0, 1, 2));
        s.due("two opinions", x.opinion(1, 0, 0), 2);
        s.due("two votes", x.opinion(1, 0, 1), 2);
        s.due("from", x.opinion(1, 0, 3), 3);
        // Of several parts the first one.
        x = marked(LIST, at(0, 0, 1, 2), at(0, 0, 4, 5), at(0, 0, 7, 8));
        s.due("parts", x.opinion(0, 0, 2), 3);
        s.due("from", x.opinion(0, 0, 3), 1);
        s.due("to", x.opinion(0, 0, 4), 2);
        Sentence none = promises(35, "NONE if there is none such, or for another what");
        for (int bad : new int[] {-1, 5, 6, Integer.MIN_VALUE, Integer.MAX_VALUE}) {
            none.due("page " + bad, x.opinion(bad, 0, 0), -1);
            none.due("field " + bad, x.opinion(0, bad, 0), -1);
            none.due("what " + bad, x.opinion(0, 0, bad), -1);
        }
        none.due("page 2", x.opinion(2, 0, 0), -1);
        none.due("field 1", x.opinion(0, 1, 0), -1);
    }

    private static void next() {
        Sentence s = promises(36,
                "The PAGE that is no EXAMPLE of a FIELD with the most OPINIONS, of like ones the first");
        // Page 0 has one opinion, page 2 two, page 3 three: behind 1, behind 5, none.
        FieldCutter x = marked("field v;page q end;page a 1 end;page a 7 end;page b 5 a 6 end;page b 5 a 6 end;", at(1,
                0, 1, 2));
        s.due("the most, of like ones the first", x.next(0), 3);
        s.due("opinions of page 0", x.opinion(0, 0, 0), 1);
        s.due("opinions of page 2", x.opinion(2, 0, 0), 1);
        s.due("opinions of page 3", x.opinion(3, 0, 0), 2);
        s.due("asked again", x.next(0), 3);
        x = Due.read(PLAIN);
        s.due("without examples", x.next(0), 0);
        x.mark(0, 0, 2, 3);
        s.due("not the example", x.next(0), 1);
        x.mark(1, 0, 2, 4);
        s.due("the only one", x.next(0), 2);
        Sentence none = promises(36, "NONE if there is none, or none such.");
        x.mark(2, 0, 0, 1);
        none.due("all are examples", x.next(0), -1);
        x.undo();
        for (int bad : new int[] {1, -1, 4, Integer.MIN_VALUE, Integer.MAX_VALUE}) {
            none.due("field " + bad, x.next(bad), -1);
        }
        none.due("no page", Due.read("field v;").next(0), -1);
    }

    private static void without() {
        Sentence s = promises(37,
                "How many EXAMPLES would be HOPELESS, were one no EXAMPLE (its MARK, and all within it, gone)");
        FieldCutter x = marked("field v;page 1 end;page 2 end;", at(0, 0, 0, 1));
        s.due("of one none is left", x.without(0, 0), 0);
        x.mark(1, 0, 0, 1);
        s.due("one rule of both", x.without(0, 0), 0);
        s.due("one rule of both", x.without(1, 0), 0);
        x = marked("field v;page a b end;page a b end;page a : 1 end;", at(0, 0, 0, 1), at(1, 0, 1, 2), at(2, 0, 2, 3));
        s.due("all three", x.cover(0, 2), 3);
        s.due("without page 0", x.without(0, 0), 1);
        s.due("without page 1", x.without(1, 0), 0);
        s.due("without page 2", x.without(2, 0), 2);
        s.due("nothing is done", x.about(5), 3);
        s.due("examples", x.field(0, 2), 7);
        s.due("the cover stays", x.cover(0, 2), 3);
        x = marked(NEST, at(0, 0, 2, 5), at(0, 1, 4, 5), at(1, 0, 2, 5));
        s.due("the parent's mark, and what is within it", x.without(0, 0), 0);
        s.due("they stay", x.about(3), 3);
        Sentence none = promises(37, "NONE if it is none.");
        none.due("no example of this field", x.without(1, 1), -1);
        for (int bad : new int[] {2, 3, -1, 6, Integer.MIN_VALUE, Integer.MAX_VALUE}) {
            none.due("page " + bad, x.without(bad, 0), -1);
            none.due("field " + bad, x.without(0, bad), -1);
        }
    }

    // ---- 38 to 40 ----

    private static void image() {
        Sentence s = promises(38, "MARKS, PAGES, what is LEARNT are kept in a BOX 0, 1: how many parts are MARKED");
        FieldCutter x = Due.read(PLAIN);
        s.due("of no mark", x.image(0), 0);
        x.mark(0, 0, 2, 3);
        x.learn(0);
        s.due("of one", x.image(1), 1);
        s.due("no act", x.about(5), 2);
        s.due("the other box stays", x.back(0), 0);
        s.due("pages", x.about(1), 3);
        s.due("not learnt", x.about(4), 0);
        s.due("over what was kept", x.image(1), 0);
        s.due("it is the new one", x.back(1), 0);
        Sentence none = promises(38, "NONE if there is none such.");
        for (int bad : new int[] {2, -1, Integer.MIN_VALUE, Integer.MAX_VALUE}) {
            none.due("image(" + bad + ")", x.image(bad), -1);
        }
        // An image ahead of any book is one of nothing.
        x = new FieldCutter();
        s.due("ahead of any book", x.image(0), 0);
        s.due("back to it", x.back(0), 0);
    }

    private static void back() {
        Sentence s = promises(39, "All is as it was kept (no ACTS are kept then): likewise");
        FieldCutter x = marked(LIST, at(0, 0, 1, 2), at(0, 0, 4, 5));
        x.learn(0);
        s.due("image", x.image(0), 2);
        x.unmark(0, 0);
        x.mark(1, 0, 1, 2);
        x.learn(0);
        Due.tell(x, "page z : end;");
        x.page();
        x.undo();
        s.due("acts", x.about(5), 6);
        s.due("to redo", x.about(6), 1);
        Due.tell(x, "abc");
        s.due("back", x.back(0), 2);
        s.due("examples", x.field(0, 2), 1);
        s.due("from of the second", x.marked(0, 0, 1, 0), 4);
        s.due("pages", x.about(1), 2);
        s.due("learnt as it was", x.stale(0), 0);
        s.due("no acts", x.about(5), 0);
        s.due("none to redo", x.about(6), 0);
        s.due("undo", x.undo(), false);
        s.due("redo", x.redo(), false);
        s.due("the tape is no part of it", x.about(7), 3);
        x.mark(1, 0, 4, 5);
        s.due("the image is not touched", x.back(0), 2);
        s.due("page 1 has no mark", x.marked(1, 0, N, 0), 0);
        x.mark(1, 0, 1, 2);
        s.due("an act", x.about(5), 1);
        s.due("undo", x.undo(), true);
        s.due("parts", x.about(3), 2);
        // A page that was taken away comes back with its numbers.
        x = Due.read("field v;");
        Due.tell(x, "page a b end;");
        x.page();
        x.image(1);
        x.undo();
        Due.tell(x, "page c end;");
        x.page();
        s.due("the other page", x.tokens(0), 1);
        s.due("back", x.back(1), 0);
        s.due("its tokens", x.tokens(0), 2);
        s.due("unlike tokens", x.about(2), 2);
        s.due("no more acts", x.undo(), false);
    }

    private static void backRefused() {
        Sentence s = promises(39, "NONE, doing nothing, if nothing was, or there is no such BOX.");
        FieldCutter x = marked(PLAIN, at(0, 0, 2, 3), at(1, 0, 2, 4));
        x.undo();
        x.image(0);
        for (int bad : new int[] {1, 2, -1, Integer.MIN_VALUE, Integer.MAX_VALUE}) {
            s.due("back(" + bad + ")", x.back(bad), -1);
        }
        s.due("acts", x.about(5), 1);
        s.due("to redo", x.about(6), 1);
        s.due("redo", x.redo(), true);
        s.due("parts", x.about(3), 2);
    }

    private static void about() {
        Sentence s = promises(40,
                "What 0: FIELDS, 1: PAGES, 2: unlike TOKENS, 3: parts that are MARKED, 4: FIELDS that are LEARNT, as bits, 5: ACTS that can be undone, 6: redone, 7: bytes on the TAPE.");
        FieldCutter x = Due.read("field a;field b many;field c;field d;page x : 1 end;page x : 2 end;");
        int[] first = {4, 2, 4, 0, 0, 0, 0, 0};
        for (int what = 0; what < 8; what++) {
            s.due("about(" + what + ") of a new book", x.about(what), first[what]);
        }
        x.mark(0, 3, 2, 3);
        x.mark(0, 1, 0, 1);
        x.mark(0, 1, 2, 3);
        x.learn(3);
        x.learn(1);
        x.mark(1, 0, 0, 1);
        x.undo();
        Due.tell(x, "page");
        int[] then = {4, 2, 4, 3, 10, 5, 1, 4};
        for (int what = 0; what < 8; what++) {
            s.due("about(" + what + ")", x.about(what), then[what]);
        }
        Sentence none = promises(40, "NONE for another what.");
        for (int bad : new int[] {8, -1, Integer.MIN_VALUE, Integer.MAX_VALUE}) {
            none.due("about(" + bad + ")", x.about(bad), -1);
        }
    }
}
