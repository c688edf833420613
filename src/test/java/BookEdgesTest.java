/** The edges that the document names of BOOKS, TOKENS, FAULTS and of promises 1 to 9, sentence by sentence. */
public final class BookEdgesTest {
    private static final String SIX = "page a end;page b end;page c end;page d end;page e end;page f end;";
    private static final String FORTY = " 1 2 3 4 5 6 7 8 9 0 1 2 3 4 5 6 7 8 9 0 1 2 3 4 5 6 7 8 9 0 1 2 3 4 5 6 7 8 9 0";

    public static void main(String[] args) {
        lengthOfBooks();
        lines();
        everyByte();
        lengthsOfTokens();
        blanks();
        longestTokens();
        behindNumbers();
        tokensOfPages();
        manyFields();
        names();
        parents();
        manyPages();
        places();
        likePlaces();
        faultsOfLines();
        newObject();
        feed();
        end();
        book();
        bookRefused();
        page();
        pageRefused();
        seventhPage();
        fault();
        field();
        tokens();
        token();
        Sentence.allOf(1, 9);
        Due.finish("BookEdgesTest");
    }

    private static Sentence says(String text) {
        return Sentence.says(text);
    }

    private static Sentence promises(int promise, String text) {
        return Sentence.promises(promise, text);
    }

    private static FieldCutter told(String text) {
        FieldCutter x = new FieldCutter();
        Due.tell(x, text);
        return x;
    }

    private static String times(String text, int n) {
        return text.repeat(n);
    }

    // ---- the text ----

    private static void lengthOfBooks() {
        Sentence s = says("A BOOK is a text of at most 900 bytes");
        s.fine("page x end;" + times(" ", 889));
        s.fault(times(" ", 890) + "page x end", 2, 900);
        s.fine(times("\n", 889) + "page x end;");
        FieldCutter x = told(times(" ", 889) + "page x end;");
        s.due("book() of 900 bytes", x.book(), 1);
    }

    private static void lines() {
        Sentence s = says("book = {line}");
        s.due("book() of none", new FieldCutter().book(), 0);
        s.fine("");
        s.fine("\n \n");
        s.fine("page x end;field a;page y end;field b of a;");
        says("page TOKEN {TOKEN} end ;").fine("page x end;").fault("page end;", 2, 5).fault("page ;", 2, 5)
                .fault("page x;", 2, 6).fault("page x end", 2, 10).fault("page x end x;", 2, 11);
        says("field NAME [of NAME] [many] ;").fine("field a;").fine("field a many;").fine("field a;field b of a many;")
                .fault("field a", 2, 7).fault("field ;", 2, 6).fault("field a of ;", 2, 11)
                .fault("field a of many;", 2, 11).fault("field a many of a;", 2, 13).fault("field a many many;", 2, 13)
                .fault("field a;field b of a of a;", 2, 21).fault("field a,", 2, 7).fault("field a;;", 2, 8);
    }

    /** Every byte between two words: part of the tape, a blank, a TOKEN, the end of a line or none. */
    private static void everyByte() {
        Sentence tokens = says("TOKENS: words (a .. z, 8 at most), numbers (1 to 4 digits), the signs . : , - / # = + ;.");
        String signs = ".:,-/#=+";
        for (int b = 0; b < 256; b++) {
            String text = "page x " + (char) b + " end;";
            if (b == ' ' || b == '\n' || b >= 'a' && b <= 'z' || b >= '0' && b <= '9' || signs.indexOf(b) >= 0) {
                tokens.fine(text);
            } else {
                tokens.fault(text, b == ';' ? 2 : 1, 7);
            }
        }
        FieldCutter x = Due.read("page a z 0 9" + signs + " end;");
        int[] kinds = {0, 0, 1, 1, 2, 2, 2, 2, 2, 2, 2, 2};
        for (int at = 0; at < kinds.length; at++) {
            tokens.due("kind of token " + at, x.token(0, at, 0), kinds[at]);
        }
        tokens.due("tokens", x.tokens(0), kinds.length);
    }

    private static void lengthsOfTokens() {
        Sentence s = says("words (a .. z, 8 at most), numbers (1 to 4 digits)");
        s.fine("page abcdefgh end;").fault("page abcdefghi end;", 1, 5).fault("page " + times("z", 300) + " end;", 1,
                5);
        s.fine("page 0 end;").fine("page 9999 end;").fault("page 10000 end;", 1, 5).fault("page 00000 end;", 1, 5);
        s.fault("page " + times("7", 64) + " end;", 1, 5);
        s.fault("page x abcdefghi", 1, 7).fault("page x 12345", 1, 7);
        FieldCutter x = Due.read("page abcdefgh 9999 end;");
        s.due("bytes of the longest word", x.token(0, 0, 2), 8);
        s.due("bytes of the longest number", x.token(0, 1, 2), 4);
    }

    private static void blanks() {
        Sentence s = says("Blanks (32, 10) part them or not");
        FieldCutter x = Due.read("page ab:12,cd end;page a b : 1 2,c d end;page\nab\n12\nend\n;");
        s.due("not parted", x.tokens(0), 5);
        s.due("parted", x.tokens(1), 8);
        s.due("by line ends", x.tokens(2), 2);
        s.fault("page x e nd;", 2, 11).fault("pa ge x end;", 2, 0).fault("page x\tend;", 1, 6).fault("page x\rend;", 1,
                6);
        s.fine(" field a ; field b of a many ; ").fine("field\na;page x end\n;");
    }

    private static void longestTokens() {
        Sentence s = says("each is as long as can be");
        FieldCutter x = Due.read("page ab12cd end;page ab12 cd34 end;page 12:34 end;");
        s.due("a letter behind a number", x.fault(0), 1);
        x = Due.read("page ab12 cd34 end;page 12:34 end;page ende end;");
        s.due("words and numbers side by side", x.tokens(0), 4);
        s.due("bytes", x.token(0, 0, 2), 2);
        s.due("bytes", x.token(0, 1, 2), 2);
        s.due("numbers about a sign", x.tokens(1), 3);
        s.due("a word that begins as end", x.token(2, 0, 2), 4);
        s.fault("fielda;", 2, 0).fault("fields a;", 2, 0).fault("pagex end;", 2, 0);
        x = Due.read("page x endpage y end;");
        s.due("end and page as one word", x.tokens(0), 3);
    }

    private static void behindNumbers() {
        Sentence s = says("no letter directly behind a number");
        s.fault("page 12a end;", 1, 5).fault("page x 1end;", 1, 7).fault("page 1234a end;", 1, 5);
        s.fine("page 12 a end;").fine("page 12\na end;").fine("page 12:a end;").fine("page a12 end;")
                .fine("page 1 end;");
        s.fault("field 1a;", 1, 6).fault("field a1b;", 1, 7);
        s.fault("page x end 1a", 1, 11);
    }

    private static void tokensOfPages() {
        Sentence s = says("A TOKEN of a page is any but the word end, the sign ;.");
        FieldCutter x = Due.read("page field page of many ends en . end;");
        s.due("words that mean something elsewhere", x.tokens(0), 7);
        s.fault("page x end end;", 2, 11).fault("page x ; end;", 2, 7).fault("page end end;", 2, 5).fault("page end",
                2, 5);
        s.fault("page ends;", 2, 9);
    }

    // ---- FIELDS and PAGES ----

    private static void manyFields() {
        Sentence s = says("FIELDS, 4 at most, numbered as told");
        FieldCutter x = Due.read("field d;field c of d;field b many;field a of c many;");
        s.due("FIELDS", x.about(0), 4);
        s.due("parent of the second", x.field(1, 0), 0);
        s.due("many of the third", x.field(2, 1), 1);
        s.due("parent of the fourth", x.field(3, 0), 1);
        s.due("none behind", x.field(4, 1), -1);
        s.fault("field a;field b;field c;field d;field e;", 2, 32);
        says("a FIELD, a PAGE too many, at the word field, page").fault("field a;field b;field c;field d; field 1", 2,
                33)
                .fault("field a;field b;field c;field d;field a;", 2, 32).fault(SIX + "page end;", 2, 66)
                .fine("field a;field b;field c;field d;" + SIX);
    }

    private static void names() {
        Sentence s = says("NAME: a word of 7 letters at most, none of field, page, of, many, end");
        s.fine("field abcdefg;").fine("field a;").fine("field fields;").fine("field ends;").fine("field ofx;")
                .fine("field man;");
        s.fault("field abcdefgh;", 2, 6).fault("field field;", 2, 6).fault("field page;", 2, 6).fault("field of;", 2,
                6);
        s.fault("field many;", 2, 6).fault("field end;", 2, 6).fault("field 1;", 2, 6).fault("field .;", 2, 6);
        says("a word of 8 letters as a NAME").fault("field abcdefgh;", 2, 6).fault("field a of abcdefgh;", 2, 11)
                .fine("field a;field b of a;page abcdefgh end;");
    }

    private static void parents() {
        Sentence s = says("of: a FIELD told ahead, its PARENT, that is told without many.");
        s.fine("field a;field b of a;field c of a;").fine("field abcdefg;field b of abcdefg;");
        Sentence bad = says("3 a NAME told already; behind of one of no FIELD, or of one told with many (at it).");
        bad.fault("field a;field a;", 3, 14).fault("field a of a;", 3, 11).fault("field b of a;field a;", 3, 11);
        bad.fault("field a many;field b of a;", 3, 24).fault("field a;field b;field a many;", 3, 22);
        bad.fault("field a;field b of a many;field c of b;", 3, 37).fault("field a many;field a;", 3, 19);
        bad.fine("field a;field b of a many;field c of a;");
        // A NAME is the whole word: neither its begin nor the word of a page is one.
        bad.fault("field ab;field c of a;", 3, 20).fine("field ab;field a;").fault("page a end;field b of a;", 3, 22);
    }

    private static void manyPages() {
        Sentence s = says("PAGES, 6 at most, numbered as told, of at most 40 TOKENS.");
        FieldCutter x = Due.read("page a end;page a b end;page" + FORTY + " end;");
        for (int p = 0; p < 3; p++) {
            s.due("tokens of page " + p, x.tokens(p), p == 2 ? 40 : p + 1);
        }
        s.due("the last token's kind", x.token(2, 39, 0), 1);
        s.fine(SIX).fault(SIX + "page g end;", 2, 66);
        x = Due.read(SIX);
        s.due("pages", x.about(1), 6);
        s.due("the sixth", x.tokens(5), 1);
        says("a 41st TOKEN of a page").fine("page" + FORTY + " end;").fault("page" + FORTY + " x end;", 2, 85)
                .fault("page" + FORTY + " x y z", 2, 85).fault("page" + FORTY, 2, 84).fault("page" + FORTY + ";", 2, 84)
                .fault("page" + FORTY + " page end;", 2, 85);
    }

    // ---- FAULTS ----

    private static void places() {
        Sentence s = says("FAULTS, the first by its place (bytes from 0; the end: the text's length)");
        s.fault("$", 1, 0).fault(" $", 1, 1).fault("\n\n7", 2, 2);
        s.fault("page", 2, 4).fault("page ", 2, 5).fault("page x\n", 2, 7).fault("field a of", 2, 10)
                .fault("field a of \n", 2, 12);
        // Two faults each: that of the lesser place, whichever it is.
        s.fault("field 1; $", 2, 6).fault("page $ end; field 1;", 1, 5).fault("field a;field a;field b of c;", 3, 14);
        s.fault("field b of c;field b;$", 3, 11).fault("page end; page 12345 end;", 2, 5);
        s.fault("field abcdefgh of abcdefgh;", 2, 6).fault("field a of b $", 3, 11);
    }

    private static void likePlaces() {
        Sentence s = says("at one place the least: 1 no TOKEN; 2 one that can't stand there");
        // No TOKEN, and nothing could stand there but another one.
        s.fault("$ a;", 1, 0).fault("field $", 1, 6).fault("field a $", 1, 8).fault("field abcdefghi;", 1, 6);
        s.fault("field a of 12345;", 1, 11).fault("page $", 1, 5).fault("page x end $", 1, 11).fault(SIX + "$", 1, 66);
        s.fault("page" + FORTY + " $", 1, 85).fault("page" + FORTY + " 12345", 1, 85).fault("page" + FORTY + " 1x", 1,
                85);
        // Neither a NAME nor that of a FIELD.
        s.fault("field a of abcdefgh;", 2, 11).fault("field a of end;", 2, 11).fault("field a of of;", 2, 11);
        s.fault("field a of 7;", 2, 11);
    }

    private static void faultsOfLines() {
        Sentence s = says("2 one that can't stand there");
        s.fault("a;", 2, 0).fault(";", 2, 0).fault("end;", 2, 0).fault("of a;", 2, 0).fault("many;", 2, 0);
        s.fault("field", 2, 5).fault("field a b;", 2, 8).fault("field a end;", 2, 8).fault("field a page x end;", 2, 8);
        s.fault("page x end field a;", 2, 11).fault("page x end page y end;", 2, 11).fault("page x end;end;", 2, 11);
        s.fault("field a of", 2, 10).fault("field a;field b of a x;", 2, 21).fault("field a;field b of a", 2, 20);
    }

    // ---- promise 1 ----

    private static void newObject() {
        Sentence s = promises(1, "No FIELDS, no PAGES.");
        FieldCutter x = new FieldCutter();
        for (int what = 0; what < 8; what++) {
            s.due("about(" + what + ")", x.about(what), 0);
        }
        s.due("field(0,0)", x.field(0, 0), -1);
        s.due("tokens(0)", x.tokens(0), -1);
        s.due("mark(0,0,0,1)", x.mark(0, 0, 0, 1), -1);
        s.due("learn(0)", x.learn(0), -1);
        s.due("undo()", x.undo(), false);
        s.due("redo()", x.redo(), false);
        s.due("back(0)", x.back(0), -1);
        s.due("strange(0)", x.strange(0), -1);
        says("NONE = -1").due("NONE", FieldCutter.NONE, -1);
        Sentence two = says("An object is used for at most 512 calls after it has been made");
        for (int call = 1; call < 512; call += 2) {
            two.due("feed, call " + call, x.feed(0, 0, 0, 0, 0), 20);
            two.due("end, call " + (call + 1), x.end(0), 0);
        }
        FieldCutter y = new FieldCutter();
        two.due("another object has its own tape", y.feed(0, 0, 0, 0, 0) + x.about(7), 20);
    }

    // ---- promises 2 and 3 ----

    private static void feed() {
        Sentence first = promises(2, "Twenty bytes come behind those on the TAPE, of each number the highest first");
        FieldCutter x = new FieldCutter();
        first.due("feed", x.feed(0x70616765, 0x20782020, 0x20202020, 0x656e643b, 0x20202020), 20);
        first.due("book()", x.book(), 1);
        x.feed(0x70616765, 0x20782020, 0x20202020, 0x20202020, 0x20202020);
        first.due("behind those", x.feed(0x79207a20, 0x656e643b, 0x20202020, 0x20202020, 0x20202020), 40);
        first.due("book()", x.book(), 1);
        first.due("tokens", x.tokens(0), 3);
        // The bytes of negative numbers are those of 128 to 255 where they stand.
        int[][] rows = {{-1, 0}, {0x20ff2020, 1}, {0x2020ff20, 2}, {0x202020ff, 3}, {0x20208020, 2},
                {Integer.MIN_VALUE, 0}};
        for (int[] row : rows) {
            x.feed(0x20202020, 0x20202020, 0x20202020, 0x20202020, row[0]);
            x.book();
            first.due("fault(0) of " + row[0], x.fault(0), 1);
            first.due("fault(1) of " + row[0], x.fault(1), 16 + row[1]);
        }
        Sentence full = promises(2, "how many there are; NONE, and nothing comes, if there would be more than 900.");
        x = new FieldCutter();
        for (int k = 1; k <= 45; k++) {
            full.due("feed " + k, x.feed(0x20202020, 0x20202020, 0x20202020, 0x20202020, 0x20202020), 20 * k);
        }
        full.due("one more", x.feed(0, 0, 0, 0, 0), -1);
        full.due("bytes", x.about(7), 900);
        full.due("nothing came", x.book(), 0);
        for (int k = 1; k <= 44; k++) {
            x.feed(0x20202020, 0x20202020, 0x20202020, 0x20202020, 0x20202020);
        }
        full.due("880", x.about(7), 880);
        full.due("just 900", x.feed(0x20202020, 0x20202020, 0x20202020, 0x20202020, 0x20202020), 900);
        full.due("end(881)", x.end(881), 881);
        full.due("901", x.feed(0, 0, 0, 0, 0), -1);
        full.due("881 stay", x.about(7), 881);
        full.due("nothing came", x.book(), 0);
    }

    private static void end() {
        Sentence s = promises(3,
                "The TAPE has its first n bytes: n; NONE, doing nothing, if it has not so many, or n is below 0.");
        FieldCutter x = new FieldCutter();
        s.due("end(0) of none", x.end(0), 0);
        s.due("end(1) of none", x.end(1), -1);
        Due.tell(x, "page x end;page y en");
        int[] bad = {21, 900, 901, Integer.MAX_VALUE, -1, -20, Integer.MIN_VALUE};
        for (int n : bad) {
            s.due("end(" + n + ")", x.end(n), -1);
            s.due("it has all", x.about(7), 20);
        }
        s.due("end(20)", x.end(20), 20);
        s.due("end(11)", x.end(11), 11);
        s.due("end(20) now", x.end(20), -1);
        s.due("book()", x.book(), 1);
        // What is fed comes behind the end, not behind what lay there.
        Due.tell(x, "page x end;       $$");
        x.end(5);
        Due.tell(x, "y z end;            ");
        s.due("book()", x.book(), 1);
        s.due("tokens", x.tokens(0), 2);
        Due.tell(x, "page x end;");
        s.due("end(0)", x.end(0), 0);
        s.due("an empty book", x.book(), 0);
    }

    // ---- promise 4 ----

    private static FieldCutter busy() {
        FieldCutter x = Due.read("field v;field w many;page a : 1 end;page b : 2 end;");
        x.mark(0, 0, 2, 3);
        x.mark(0, 1, 0, 1);
        x.image(0);
        x.mark(0, 1, 2, 3);
        x.image(1);
        x.learn(0);
        x.learn(1);
        x.undo();
        return x;
    }

    private static void book() {
        Sentence s = promises(4, "The TAPE (empty then, also at a FAULT) is the BOOK");
        FieldCutter x = told("page x end;");
        s.due("book()", x.book(), 1);
        s.due("the tape", x.about(7), 0);
        Due.tell(x, "page");
        s.due("a fault", x.book(), -1);
        s.due("the tape", x.about(7), 0);
        s.due("an empty book, then", x.book(), 0);
        s.due("pages", x.about(1), 0);
        Sentence gone = promises(4, "(nothing is MARKED, LEARNT, no ACTS are kept, BOXES are empty): how many PAGES");
        x = busy();
        // The same book again: what was marked and learnt is gone all the same.
        Due.tell(x, "field v;field w many;page a : 1 end;page b : 2 end;");
        gone.due("book()", x.book(), 2);
        gone.due("marked", x.about(3), 0);
        gone.due("marked(0,0)", x.marked(0, 0, -1, 0), 0);
        gone.due("learnt", x.about(4), 0);
        gone.due("drift", x.drift(0, 0), -1);
        gone.due("acts", x.about(5), 0);
        gone.due("undo()", x.undo(), false);
        gone.due("acts taken back", x.about(6), 0);
        gone.due("redo()", x.redo(), false);
        gone.due("box 0", x.back(0), -1);
        gone.due("box 1", x.back(1), -1);
        gone.due("rules that can be", x.could(0, 0), 0);
        gone.due("mark anew", x.mark(0, 0, 0, 1), 1);
        gone.due("to", x.marked(0, 0, 0, 1), 1);
        x.learn(0);
        x.image(0);
        // Behind back() what was kept is what nothing can be taken back from.
        x.back(0);
        Due.tell(x, "field v;page a : 1 end;");
        gone.due("book()", x.book(), 1);
        gone.due("marked", x.about(3), 0);
        gone.due("learnt", x.about(4), 0);
        gone.due("mark anew", x.mark(0, 0, 2, 3), 1);
        gone.due("from", x.marked(0, 0, 0, 0), 2);
        gone.due("to", x.marked(0, 0, 0, 1), 3);
        gone.due("right", x.tries(0, 0, -1, 4, -1, -1), 1);
        x.image(0);
        x.learn(0);
        gone.due("book() of nothing", x.book(), 0);
        gone.due("pages", x.about(1), 0);
        gone.due("fields", x.about(0), 0);
        gone.due("unlike tokens", x.about(2), 0);
        gone.due("marked", x.about(3), 0);
        gone.due("acts", x.about(5), 0);
        gone.due("box 0", x.back(0), -1);
    }

    private static void bookRefused() {
        Sentence s = promises(4, "NONE: a FAULT (all else stays).");
        for (String bad : new String[] {"field z;page", "page x end;page y end;page z end;$", "field v;field v;",
                SIX + "page g end;"}) {
            FieldCutter x = busy();
            int[] about = new int[7];
            for (int what = 0; what < 7; what++) {
                about[what] = x.about(what);
            }
            Due.tell(x, bad);
            s.due("book() of [" + bad + "]", x.book(), -1);
            for (int what = 0; what < 7; what++) {
                s.due("about(" + what + ")", x.about(what), about[what]);
            }
            s.due("tokens", x.tokens(1), 3);
            s.due("a token's number", x.token(1, 0, 1), 3);
            s.due("many", x.field(1, 1), 1);
            s.due("learnt", x.cut(1, 0, 0, 0), 2);
            s.due("redo()", x.redo(), true);
            s.due("learnt, too", x.about(4), 3);
            s.due("box 0", x.back(0), 2);
            s.due("box 1", x.back(1), 3);
        }
    }

    // ---- promise 5 ----

    private static void page() {
        Sentence s = promises(5,
                "The TAPE (empty then, also at a FAULT) is one PAGE more (one line as in a BOOK, page .. end ; alone): its number");
        FieldCutter x = Due.read("field v;");
        for (int p = 0; p < 6; p++) {
            Due.tell(x, "page w" + p + " end;");
            s.due("page()", x.page(), p);
            s.due("the tape", x.about(7), 0);
            s.due("fault(0)", x.fault(0), 0);
            s.due("fault(1)", x.fault(1), -1);
            s.due("pages", x.about(1), p + 1);
        }
        s.due("unlike tokens", x.about(2), 7);
        Sentence act = promises(5, "(An ACT.)");
        act.due("acts", x.about(5), 6);
        act.due("undo()", x.undo(), true);
        act.due("pages", x.about(1), 5);
        act.due("unlike tokens", x.about(2), 6);
        act.due("another one", x.tokens(5), -1);
        Due.tell(x, "page z : w end;");
        act.due("page()", x.page(), 5);
        act.due("redo()", x.redo(), false);
        act.due("its tokens", x.tokens(5), 3);
        act.due("a new number", x.token(5, 0, 1), 6);
        act.due("an old number", x.token(5, 2, 1), 0);
        x = told("page" + FORTY + " end;");
        s.due("40 tokens, without a book", x.page(), 0);
        s.due("tokens", x.tokens(0), 40);
    }

    private static void pageRefused() {
        Sentence s = promises(5, "NONE, doing nothing else: a FAULT, or there are 6 (then fault() stays).");
        Object[][] rows = {{"", 2, 0}, {" ", 2, 1}, {"field b;", 2, 0}, {"page x end", 2, 10},
                {"page x end;page y end;", 2, 11},
            {"page x end;;", 2, 11}, {"page x end;field b;", 2, 11}, {"page x end; $", 1, 12}, {"$", 1, 0},
                    {"page end;", 2, 5},
            {"x", 2, 0}, {";", 2, 0}, {"page" + FORTY + " x end;", 2, 85}, {"pages x end;", 2, 0}, {"page x end;1", 2,
                    11}};
        for (Object[] row : rows) {
            FieldCutter x = busy();
            Due.tell(x, (String) row[0]);
            s.due("page() of [" + row[0] + "]", x.page(), -1);
            s.due("fault(0)", x.fault(0), (Integer) row[1]);
            s.due("fault(1)", x.fault(1), (Integer) row[2]);
            s.due("the tape", x.about(7), 0);
            s.due("pages", x.about(1), 2);
            s.due("marked", x.about(3), 3);
            s.due("learnt", x.about(4), 1);
            s.due("acts", x.about(5), 4);
            s.due("redo() stays", x.redo(), true);
            s.due("box 1 stays", x.back(1), 3);
        }
    }

    private static void seventhPage() {
        Sentence s = promises(5, "or there are 6 (then fault() stays).");
        FieldCutter x = Due.read(SIX);
        Due.tell(x, "page $");
        s.due("page()", x.page(), -1);
        s.due("fault(0) stays", x.fault(0), 0);
        s.due("fault(1) stays", x.fault(1), -1);
        s.due("the tape is empty", x.about(7), 0);
        Due.tell(x, "page end;");
        x.book();
        Due.tell(x, "page g end;");
        s.due("page()", x.page(), -1);
        s.due("fault(0) stays", x.fault(0), 2);
        s.due("fault(1) stays", x.fault(1), 5);
        s.due("pages", x.about(1), 6);
        s.due("acts", x.about(5), 0);
        s.due("none on the tape", x.page(), -1);
        s.due("fault(1) stays", x.fault(1), 5);
        // Five, by undo: there is room again.
        x = Due.read(SIX.substring(0, 55));
        Due.tell(x, "page g end;");
        s.due("the sixth", x.page(), 5);
        Due.tell(x, "page h end;");
        s.due("a seventh", x.page(), -1);
        x.undo();
        Due.tell(x, "page h end;");
        s.due("redo is there ahead", x.about(6), 1);
        s.due("the sixth again", x.page(), 5);
    }

    // ---- promise 6 ----

    private static void fault() {
        Sentence s = promises(6,
                "Of the latest book() or page() what 0: its FAULT (0: without; ahead of any, too), 1: its place (NONE).");
        FieldCutter x = new FieldCutter();
        s.due("fault(0) ahead of any", x.fault(0), 0);
        s.due("fault(1) ahead of any", x.fault(1), -1);
        Due.tell(x, "page 1x end;");
        x.book();
        s.due("fault(0) of book()", x.fault(0), 1);
        s.due("fault(1) of book()", x.fault(1), 5);
        Due.tell(x, "page x end");
        x.page();
        s.due("fault(0) of page()", x.fault(0), 2);
        s.due("fault(1) of page()", x.fault(1), 10);
        Due.tell(x, "field v;field w of u;");
        x.book();
        s.due("fault(0) of a later book()", x.fault(0), 3);
        s.due("fault(1) of a later book()", x.fault(1), 19);
        Due.tell(x, "page x end;");
        x.page();
        s.due("fault(0) without", x.fault(0), 0);
        s.due("fault(1) without", x.fault(1), -1);
        Due.tell(x, "$");
        x.book();
        s.due("fault(0)", x.fault(0), 1);
        s.due("fault(1)", x.fault(1), 0);
        x.undo();
        x.back(0);
        x.image(0);
        s.due("fault(0) behind other calls", x.fault(0), 1);
        x.book();
        s.due("fault(0) of the empty book", x.fault(0), 0);
        s.due("fault(1) of the empty book", x.fault(1), -1);
        Sentence none = promises(6, "NONE for another what.");
        Due.tell(x, "$");
        x.book();
        for (int what : new int[] {-1, 2, 3, Integer.MIN_VALUE, Integer.MAX_VALUE}) {
            none.due("fault(" + what + ")", x.fault(what), -1);
        }
    }

    // ---- promises 7 to 9 ----

    private static void field() {
        Sentence s = promises(7,
                "Of a FIELD what 0: its PARENT (NONE), 1: 1 if told with many, else 0, 2: EXAMPLES, as bits, 3: LEARNT RULES,");
        FieldCutter x = Due.read("field a;field b of a;field c of b many;field d many;" + SIX.substring(0,
                55) + "page : 1 . x end;");
        int[] parents = {-1, 0, 1, -1};
        for (int f = 0; f < 4; f++) {
            s.due("parent of " + f, x.field(f, 0), parents[f]);
            s.due("many of " + f, x.field(f, 1), f / 2);
            s.due("no examples of " + f, x.field(f, 2), 0);
            s.due("no rules of " + f, x.field(f, 3), 0);
        }
        Sentence shape = promises(7,
                "4, 5: the fewest, the most TOKENS of SHAPE (NONE: nothing is LEARNT), 6, 7: its KINDS of first, of last ones, as bits (0).");
        for (int what = 4; what < 8; what++) {
            shape.due("field(0," + what + ") ahead of learn", x.field(0, what), what < 6 ? -1 : 0);
        }
        x.mark(5, 0, 0, 4);
        s.due("the sixth page alone", x.field(0, 2), 32);
        x.mark(0, 0, 0, 1);
        s.due("the first and the sixth", x.field(0, 2), 33);
        s.due("of another field", x.field(1, 2), 0);
        shape.due("marked, but not learnt", x.field(0, 4), -1);
        x.learn(0);
        int[] whole = {1, 4, 5, 1};
        for (int what = 4; what < 8; what++) {
            shape.due("field(0," + what + ")", x.field(0, what), whole[what - 4]);
        }
        s.due("one rule, of nothing", x.field(0, 3), 1);
        x.unmark(5, 0);
        shape.due("as it was learnt", x.field(0, 5), 4);
        x.mark(5, 3, 0, 1);
        x.mark(5, 3, 1, 3);
        x.learn(3);
        int[] parts = {1, 2, 6, 4};
        for (int what = 4; what < 8; what++) {
            shape.due("field(3," + what + ")", x.field(3, what), parts[what - 4]);
        }
        Sentence none = promises(7, "NONE if there is none such, or for another what.");
        for (int f : new int[] {-1, 4, Integer.MIN_VALUE, Integer.MAX_VALUE}) {
            for (int what = 0; what < 8; what++) {
                none.due("field(" + f + "," + what + ")", x.field(f, what), -1);
            }
        }
        for (int what : new int[] {-1, 8, Integer.MIN_VALUE, Integer.MAX_VALUE}) {
            none.due("field(0," + what + ")", x.field(0, what), -1);
        }
    }

    private static void tokens() {
        Sentence s = promises(8, "How many TOKENS a PAGE has; NONE if there is none such.");
        FieldCutter x = Due.read("page x end;page" + FORTY + " end;");
        s.due("tokens(0)", x.tokens(0), 1);
        s.due("tokens(1)", x.tokens(1), 40);
        for (int p : new int[] {-1, 2, 6, Integer.MIN_VALUE, Integer.MAX_VALUE}) {
            s.due("tokens(" + p + ")", x.tokens(p), -1);
        }
    }

    private static void token() {
        Sentence s = promises(9, "Of a TOKEN of a PAGE what 0: its KIND, 1: its NUMBER, 2: how many bytes.");
        FieldCutter x = Due.read("field zz;page ab zz ab end;page 7 zz + abcdefgh 0007 end;");
        int[][] first = {{0, 0, 2}, {0, 1, 2}, {0, 0, 2}};
        int[][] second = {{1, 2, 1}, {0, 1, 2}, {2, 3, 1}, {0, 4, 8}, {1, 5, 4}};
        for (int what = 0; what < 3; what++) {
            for (int at = 0; at < 3; at++) {
                s.due("token(0," + at + "," + what + ")", x.token(0, at, what), first[at][what]);
            }
            for (int at = 0; at < 5; at++) {
                s.due("token(1," + at + "," + what + ")", x.token(1, at, what), second[at][what]);
            }
        }
        Sentence none = promises(9, "NONE if there is none such, or for another what.");
        for (int bad : new int[] {-1, Integer.MIN_VALUE, Integer.MAX_VALUE, 5}) {
            none.due("token(" + bad + ",0,1)", x.token(bad, 0, 1), -1);
            none.due("token(1," + bad + ",1)", x.token(1, bad, 1), -1);
            none.due("token(0,0," + bad + ")", x.token(0, 0, bad), -1);
        }
        none.due("token(0,3,1): a token of the longer page", x.token(0, 3, 1), -1);
        none.due("token(2,0,1)", x.token(2, 0, 1), -1);
        none.due("token(0,0,3)", x.token(0, 0, 3), -1);
        Sentence same = says("TOKENS are the same if they have the same bytes; each has a NUMBER by where it came first (in pages, by their order, from 0 on).");
        x = Due.read("page 1 01 001 a aa end;page aa ab ba 1 end;");
        int[] numbers = {4, 5, 6, 0};
        for (int at = 0; at < 4; at++) {
            same.due("number of token " + at, x.token(1, at, 1), numbers[at]);
        }
        same.due("unlike tokens", x.about(2), 7);
    }
}
