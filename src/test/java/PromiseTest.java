/** Each promise by hand: ordinary inputs, the edges that the document names, wrong inputs. */
public final class PromiseTest {
    /** Page 0: a : 1; page 1: b : 2 3; page 2: c. NUMBERS: a 0, : 1, 1 2, b 3, 2 4, 3 5, c 6. */
    private static final String PLAIN = "field v;page a : 1 end;page b : 2 3 end;page c end;";
    private static final String NEST =
            "field row;field cell of row;page x # 1 = 2 # y end;page x # 3 = 4 # y end;";
    private static final String LIST = "field it many;page a 1 , a 2 , a 3 , end;page a 1 , a 2 end;";
    private static final String SHAPES = "field v;page x : 1 a 2 . end;page x : 1 a 2 . end;"
            + "page y : b a 2 . end;page y : 1 a b . end;page y : 1 2 3 . end;page y : 1 . end;";
    private static final String CLASH = "field v;page a b end;page a b end;";
    /** The cost stands behind the word cost, at the end or ahead of name. */
    private static final String TURNED =
            "field v;page name apple cost 12 end;page name pear cost 7 end;page cost 5 name fig end;";

    public static void main(String[] args) {
        newObject();
        tape();
        tapeCutOff();
        books();
        pages();
        faultsOfFields();
        faultsOfPages();
        faultsOfTokens();
        fields();
        tokens();
        marks();
        marksWithin();
        unmarks();
        sixPages();
        fourDeep();
        learning();
        taking();
        acts();
        marked();
        rules();
        tries();
        stops();
        could();
        covers();
        coverOrder();
        coverTies();
        foundAnew();
        contradictions();
        stale();
        cuts();
        cutsAgain();
        letters();
        patterns();
        proposals();
        alike();
        drifts();
        sturdy();
        right();
        enough();
        opinions();
        next();
        without();
        images();
        about();
        Due.finish("PromiseTest");
    }

    private static void due(String call, long got, long want) {
        Due.due(call, got, want);
    }

    private static void due(String call, boolean got, boolean want) {
        Due.due(call, got, want);
    }

    // Promise 1
    private static void newObject() {
        FieldCutter x = new FieldCutter();
        for (int what = 0; what < 8; what++) {
            due("new: about(" + what + ")", x.about(what), 0);
        }
        due("new: fault(0)", x.fault(0), 0);
        due("new: fault(1)", x.fault(1), -1);
        due("new: undo", x.undo(), false);
        due("new: redo", x.redo(), false);
        due("new: field", x.field(0, 0), -1);
        due("new: tokens", x.tokens(0), -1);
        due("new: next", x.next(0), -1);
        due("new: NONE", FieldCutter.NONE, -1);
    }

    // Promises 2, 3
    private static void tape() {
        FieldCutter x = new FieldCutter();
        for (int k = 1; k <= 45; k++) {
            due("feed " + k, x.feed(0x20202020, 0x20202020, 0x20202020, 0x20202020, 0x20202020), 20 * k);
        }
        due("feed 46", x.feed(0, 0, 0, 0, 0), -1);
        due("about(7)", x.about(7), 900);
        due("end(901)", x.end(901), -1);
        due("end(-1)", x.end(-1), -1);
        due("about(7)", x.about(7), 900);
        due("end(900)", x.end(900), 900);
        due("end(881)", x.end(881), 881);
        due("feed behind 881", x.feed(0, 0, 0, 0, 0), -1);
        due("end(880)", x.end(880), 880);
        due("feed behind 880", x.feed(0x70616765, 0x20782065, 0x6e643b20, 0x20202020, 0x20202020), 900);
        due("book: the highest byte first", x.book(), 1);
        due("tokens", x.tokens(0), 1);
        due("about(7)", x.about(7), 0);
        due("end(0)", x.end(0), 0);
        due("end(1)", x.end(1), -1);
        x.feed(0x70616765, 0x20782065, 0x6e643b80, -1, -1);
        due("end(12)", x.end(12), 12);
        due("book", x.book(), -1);
        due("a byte 128 is no TOKEN", x.fault(0), 1);
        due("its place", x.fault(1), 11);
    }

    /** What lies on the TAPE behind its end is not read. */
    private static void tapeCutOff() {
        FieldCutter x = new FieldCutter();
        Due.tell(x, "page 12ab end;      ");
        x.end(7);
        due("page 12", x.book(), -1);
        due("fault", x.fault(0), 2);
        due("at the end", x.fault(1), 7);
        Due.tell(x, "page 1234 end;      ");
        x.end(7);
        x.book();
        due("page 12 again", x.fault(1), 7);
        Due.tell(x, "field abcdef;       ");
        x.end(8);
        x.book();
        due("field ab", x.fault(1), 8);
        Due.tell(x, "page x end;page y en");
        x.end(11);
        due("one page", x.book(), 1);
    }

    // Promise 4
    private static void books() {
        FieldCutter x = new FieldCutter();
        due("an empty book", x.book(), 0);
        Due.tell(x, PLAIN);
        due("book", x.book(), 3);
        due("the tape is empty", x.about(7), 0);
        x.mark(0, 0, 2, 3);
        x.learn(0);
        x.image(1);
        x.undo();
        Due.tell(x, "field v;page");
        due("a fault", x.book(), -1);
        due("the tape is empty, too", x.about(7), 0);
        due("marks stay", x.about(3), 1);
        due("acts stay", x.about(5), 1);
        due("what was taken back stays", x.about(6), 1);
        due("pages stay", x.about(1), 3);
        due("redo", x.redo(), true);
        due("learnt again", x.about(4), 1);
        due("boxes stay", x.back(1), 1);
        x.unmark(0, 0);
        x.image(0);
        Due.tell(x, CLASH);
        due("another book", x.book(), 2);
        due("nothing is marked", x.about(3), 0);
        due("nothing is learnt", x.about(4), 0);
        due("no acts", x.about(5), 0);
        due("nothing to redo", x.about(6), 0);
        due("box 0 is empty", x.back(0), -1);
        due("box 1 is empty", x.back(1), -1);
        due("unlike tokens", x.about(2), 2);
        Due.tell(x, " \n ");
        due("a book of blanks", x.book(), 0);
        due("no fields", x.about(0), 0);
    }

    // Promise 5
    private static void pages() {
        FieldCutter x = Due.read("field v;page a : 1 end;");
        x.mark(0, 0, 2, 3);
        Due.tell(x, "page b : z end ;\n");
        due("page", x.page(), 1);
        due("fault(0)", x.fault(0), 0);
        due("an old token", x.token(1, 1, 1), 1);
        due("a new token", x.token(1, 2, 1), 4);
        due("acts", x.about(5), 2);
        due("undo", x.undo(), true);
        due("it is gone", x.tokens(1), -1);
        due("unlike tokens", x.about(2), 3);
        due("redo", x.redo(), true);
        due("it is there again", x.token(1, 2, 1), 4);
        Due.tell(x, "page b end;page c end;");
        due("two pages", x.page(), -1);
        due("fault(0)", x.fault(0), 2);
        due("fault(1)", x.fault(1), 11);
        due("the tape is empty", x.about(7), 0);
        due("no act", x.about(5), 2);
        due("no tape", x.page(), -1);
        due("fault(1) at the end", x.fault(1), 0);
        Due.tell(x, "field b;");
        due("a field", x.page(), -1);
        due("fault(0)", x.fault(0), 2);
        due("fault(1)", x.fault(1), 0);
        for (int p = 2; p < 6; p++) {
            Due.tell(x, "page q end;");
            due("page " + p, x.page(), p);
        }
        Due.tell(x, "page ; end;");
        x.book();
        Due.tell(x, "page q end;");
        due("a seventh", x.page(), -1);
        due("fault(0) stays", x.fault(0), 2);
        due("fault(1) stays", x.fault(1), 5);
        due("the tape is empty", x.about(7), 0);
        due("pages", x.about(1), 6);
        x = new FieldCutter();
        Due.tell(x, "page q end;");
        due("a page without a book", x.page(), 0);
    }

    private static void faulty(String text, int fault, int place) {
        FieldCutter x = Due.read(text);
        due("fault(0) of [" + text + "]", x.fault(0), fault);
        due("fault(1) of [" + text + "]", x.fault(1), place);
    }

    // Promise 6, and BOOK, FIELDS, FAULTS
    private static void faultsOfFields() {
        faulty("", 0, -1);
        faulty("field", 2, 5);
        faulty("field  ", 2, 7);
        faulty("fields a;", 2, 0);
        faulty("7", 2, 0);
        faulty(";", 2, 0);
        faulty("field of", 2, 6);
        faulty("field many;", 2, 6);
        faulty("field end;", 2, 6);
        faulty("field page;", 2, 6);
        faulty("field field;", 2, 6);
        faulty("field 12;", 2, 6);
        faulty("field a", 2, 7);
        faulty("field a:", 2, 7);
        faulty("field a b;", 2, 8);
        faulty("field abcdefg;", 0, -1);
        faulty("field abcdefgh;", 2, 6);
        faulty("field abcdefghi;", 1, 6);
        faulty("field a;field a;", 3, 14);
        faulty("field a of b;", 3, 11);
        faulty("field a of a;", 3, 11);
        faulty("field a of 1;", 2, 11);
        faulty("field a of of;", 2, 11);
        faulty("field a of abcdefgh;", 2, 11);
        faulty("field a of $", 1, 11);
        faulty("field a;field b of", 2, 18);
        faulty("field a many;field b of a;", 3, 24);
        faulty("field a;field b of a many;field c of b;", 3, 37);
        faulty("field a;field b of a many;field c of a;", 0, -1);
        faulty("field a many of a;", 2, 13);
        faulty("field a many many;", 2, 13);
        faulty("field a;field b;field c;field d;", 0, -1);
        faulty("field a;field b;field c;field d;field e;", 2, 32);
        faulty("field a;field a of z", 3, 14);
        FieldCutter x = Due.read("field");
        due("fault(2)", x.fault(2), -1);
        due("fault(-1)", x.fault(-1), -1);
    }

    private static void faultsOfPages() {
        faulty("page end;", 2, 5);
        faulty("page ;", 2, 5);
        faulty("page", 2, 4);
        faulty("page x;", 2, 6);
        faulty("page x end", 2, 10);
        faulty("page x end x", 2, 11);
        faulty("page x end end;", 2, 11);
        faulty("page x end;;", 2, 11);
        faulty("page x", 2, 6);
        faulty("page field page of many ends end;", 0, -1);
        String six = "page a end;page a end;page a end;page a end;page a end;page a end;";
        faulty(six, 0, -1);
        faulty(six + " page a end;", 2, 67);
        faulty(six + "field b;", 0, -1);
        String forty = "page ........................................";
        faulty(forty + "end;", 0, -1);
        faulty(forty + ". end;", 2, 45);
        faulty(forty + " field end;", 2, 46);
        faulty(forty + "$", 1, 45);
    }

    private static void faultsOfTokens() {
        faulty("page 12345 end;", 1, 5);
        faulty("page 1234 end;", 0, -1);
        faulty("page 12a end;", 1, 5);
        faulty("page abcdefgh end;", 0, -1);
        faulty("page abcdefghi end;", 1, 5);
        faulty("page A end;", 1, 5);
        faulty("page x % end;", 1, 7);
        faulty("page x\tend;", 1, 6);
        faulty("page\nx\nend\n;\n", 0, -1);
        faulty("page .:,-/#=+ end;", 0, -1);
        FieldCutter x = Due.read("page a12b3.end;");
        due("12b", x.fault(1), 6);
        x = Due.read("page a12 b3.x4-5end;");
        due("5end", x.fault(1), 15);
        x = Due.read("page a12 b3.x4-5 end;");
        due("tokens side by side", x.tokens(0), 9);
        due("token 0", x.token(0, 0, 2), 1);
        due("token 1", x.token(0, 1, 2), 2);
        faulty("page x end1 end;", 2, 10);
        faulty("page x ends end;", 0, -1);
    }

    // Promise 7
    private static void fields() {
        FieldCutter x = Due.read("field a;field b of a;field c of b many;field d;page x : 1 y end;page # z end;");
        due("field(0,0)", x.field(0, 0), -1);
        due("field(1,0)", x.field(1, 0), 0);
        due("field(2,0)", x.field(2, 0), 1);
        due("field(3,0)", x.field(3, 0), -1);
        due("field(2,1)", x.field(2, 1), 1);
        due("field(1,1)", x.field(1, 1), 0);
        due("field(0,2)", x.field(0, 2), 0);
        due("field(0,3)", x.field(0, 3), 0);
        due("field(0,4)", x.field(0, 4), -1);
        due("field(0,5)", x.field(0, 5), -1);
        due("field(0,6)", x.field(0, 6), 0);
        due("field(0,7)", x.field(0, 7), 0);
        x.mark(0, 0, 1, 4);
        x.mark(1, 0, 1, 2);
        due("field(0,2)", x.field(0, 2), 3);
        due("learn", x.learn(0), 2);
        due("field(0,3)", x.field(0, 3), 2);
        due("field(0,4)", x.field(0, 4), 1);
        due("field(0,5)", x.field(0, 5), 3);
        due("field(0,6)", x.field(0, 6), 5);
        due("field(0,7)", x.field(0, 7), 1);
        due("field(0,8)", x.field(0, 8), -1);
        due("field(0,-1)", x.field(0, -1), -1);
        due("field(4,1)", x.field(4, 1), -1);
        due("field(-1,1)", x.field(-1, 1), -1);
    }

    // Promises 8, 9
    private static void tokens() {
        FieldCutter x = Due.read("page ab : 12 ab end;page 7 ab xyz end;");
        due("tokens(0)", x.tokens(0), 4);
        due("tokens(1)", x.tokens(1), 3);
        due("tokens(2)", x.tokens(2), -1);
        due("tokens(-1)", x.tokens(-1), -1);
        int[][] first = {{0, 0, 2}, {2, 1, 1}, {1, 2, 2}, {0, 0, 2}};
        int[][] second = {{1, 3, 1}, {0, 0, 2}, {0, 4, 3}};
        for (int what = 0; what < 3; what++) {
            for (int at = 0; at < 4; at++) {
                due("token(0," + at + "," + what + ")", x.token(0, at, what), first[at][what]);
            }
            for (int at = 0; at < 3; at++) {
                due("token(1," + at + "," + what + ")", x.token(1, at, what), second[at][what]);
            }
        }
        due("token(0,4,0)", x.token(0, 4, 0), -1);
        due("token(0,-1,0)", x.token(0, -1, 0), -1);
        due("token(2,0,0)", x.token(2, 0, 0), -1);
        due("token(-1,0,0)", x.token(-1, 0, 0), -1);
        due("token(0,0,3)", x.token(0, 0, 3), -1);
        due("token(0,0,-1)", x.token(0, 0, -1), -1);
        x = Due.read("page 12 012 1 12 abcdefgh end;");
        due("012 is not 12", x.token(0, 1, 1), 1);
        due("12 again", x.token(0, 3, 1), 0);
        due("eight letters", x.token(0, 4, 2), 8);
    }

    // Promise 10
    private static void marks() {
        FieldCutter x = Due.read("field v;field it many;page a 1 a 2 a 3 a 4 a 5 a 6 a 7 a 8 a 9 end;");
        due("no token in it", x.mark(0, 0, 2, 2), -1);
        due("backwards", x.mark(0, 0, 3, 2), -1);
        due("ahead of all", x.mark(0, 0, -1, 2), -1);
        due("behind all", x.mark(0, 0, 17, 19), -1);
        due("no such page", x.mark(1, 0, 0, 1), -1);
        due("no such page", x.mark(-1, 0, 0, 1), -1);
        due("no such field", x.mark(0, 2, 0, 1), -1);
        due("no such field", x.mark(0, -1, 0, 1), -1);
        due("the greatest numbers", x.mark(0, 0, Integer.MAX_VALUE - 1, Integer.MAX_VALUE), -1);
        due("the least numbers", x.mark(0, 0, Integer.MIN_VALUE, Integer.MIN_VALUE + 1), -1);
        due("no acts", x.about(5), 0);
        due("all of it", x.mark(0, 0, 0, 18), 1);
        due("one there already", x.mark(0, 0, 0, 18), -1);
        due("first part", x.mark(0, 1, 1, 2), 1);
        due("the same", x.mark(0, 1, 1, 2), -1);
        due("ahead of it", x.mark(0, 1, 0, 1), -1);
        due("side by side", x.mark(0, 1, 2, 3), 2);
        due("with a token in common", x.mark(0, 1, 2, 4), -1);
        for (int k = 3; k <= 8; k++) {
            due("part " + k, x.mark(0, 1, 2 * k - 1, 2 * k), k);
        }
        due("a ninth", x.mark(0, 1, 17, 18), -1);
        due("parts", x.about(3), 9);
        due("acts", x.about(5), 9);
        due("to of the last", x.marked(0, 1, 7, 1), 16);
    }

    private static void marksWithin() {
        FieldCutter x = Due.read("field a;field b of a;field c of b many;page 0 1 2 3 4 5 6 7 8 9 end;page 0 1 2 end;");
        due("no parent's mark", x.mark(0, 1, 3, 4), -1);
        due("parent", x.mark(0, 0, 2, 8), 1);
        due("begins ahead", x.mark(0, 1, 1, 4), -1);
        due("ends behind", x.mark(0, 1, 7, 9), -1);
        due("outside", x.mark(0, 1, 8, 9), -1);
        due("no mark of its parent yet", x.mark(0, 2, 3, 4), -1);
        due("all of it", x.mark(0, 1, 2, 8), 1);
        due("at its begin", x.mark(0, 2, 2, 3), 1);
        due("at its end", x.mark(0, 2, 7, 8), 2);
        due("behind its end", x.mark(0, 2, 8, 9), -1);
        due("no parent's mark there", x.mark(1, 1, 0, 1), -1);
    }

    // Promise 11
    private static void unmarks() {
        FieldCutter x = Due.read("field a;field b of a;field c of b many;field d;page 0 1 2 3 4 end;page 0 1 2 end;");
        due("nothing is marked", x.unmark(0, 0), -1);
        x.mark(0, 0, 0, 5);
        x.mark(0, 1, 1, 5);
        x.mark(0, 2, 1, 2);
        x.mark(0, 2, 3, 4);
        x.mark(0, 3, 0, 1);
        x.mark(1, 0, 0, 1);
        due("no mark there", x.unmark(1, 1), -1);
        due("no such page", x.unmark(2, 0), -1);
        due("no such page", x.unmark(-1, 0), -1);
        due("no such field", x.unmark(0, 4), -1);
        due("no such field", x.unmark(0, -1), -1);
        due("no acts", x.about(5), 6);
        due("the innermost", x.unmark(0, 2), 2);
        due("undo", x.undo(), true);
        due("all within", x.unmark(0, 0), 4);
        due("others stay", x.about(3), 2);
        due("that of another field", x.marked(0, 3, -1, 0), 1);
        due("that of another page", x.marked(1, 0, -1, 0), 1);
        due("undo", x.undo(), true);
        due("as it was", x.about(3), 6);
        due("the middle", x.unmark(0, 1), 3);
        due("acts", x.about(5), 7);
    }

    /** A page behind the last one is none, whatever the next field has. */
    private static void sixPages() {
        FieldCutter x = Due.read("field a;field b;page 1 end;page 2 end;page 3 end;page 4 end;page 5 end;page 6 end;");
        due("mark", x.mark(0, 1, 0, 1), 1);
        due("mark", x.mark(5, 0, 0, 1), 1);
        due("unmark", x.unmark(6, 0), -1);
        due("without", x.without(6, 0), -1);
        due("contradict", x.contradict(0, 5, 6), -1);
        due("tries", x.tries(6, 0, -1, -1, -1, -1), -1);
        due("marked", x.marked(6, 0, -1, 0), -1);
        due("examples of a", x.field(0, 2), 32);
        due("examples of b", x.field(1, 2), 1);
        due("the sixth page's number", x.token(5, 0, 1), 5);
    }

    private static void fourDeep() {
        FieldCutter x = Due.read("field a;field b of a;field c of b;field d of c;page p q r s t end;page u p q r v end;");
        for (int f = 0; f < 4; f++) {
            due("mark " + f, x.mark(0, f, f, 5), 1);
        }
        for (int f = 3; f >= 0; f--) {
            due("learn " + f, x.learn(f), 1);
        }
        due("parent", x.field(3, 0), 2);
        due("from", x.cut(0, 3, 0, 0), 3);
        due("to", x.cut(0, 3, 0, 1), 5);
        due("from", x.cut(1, 3, 0, 0), 4);
        due("u alone may go", x.sturdy(1, 3), 1);
        due("all four", x.unmark(0, 0), 4);
    }

    // Promise 12
    private static void learning() {
        FieldCutter x = Due.read(PLAIN);
        due("no example", x.learn(0), -1);
        due("no such field", x.learn(1), -1);
        due("no such field", x.learn(-1), -1);
        due("no acts", x.about(5), 0);
        x.mark(0, 0, 2, 3);
        due("learn", x.learn(0), 1);
        due("an act", x.about(5), 2);
        due("learn as it was", x.learn(0), 1);
        due("an act, too", x.about(5), 3);
        x = Due.read(CLASH);
        x.mark(0, 0, 0, 1);
        x.mark(1, 0, 1, 2);
        due("all are hopeless", x.learn(0), 0);
        due("it is learnt all the same", x.about(4), 1);
        due("its shape", x.field(0, 4), 1);
    }

    // Promise 13
    private static void taking() {
        FieldCutter x = Due.read(NEST);
        due("nothing is learnt", x.take(1, 0), -1);
        x.mark(0, 0, 2, 5);
        x.mark(0, 1, 4, 5);
        x.learn(0);
        x.learn(1);
        due("an example", x.take(0, 0), -1);
        due("not within its parent's mark", x.take(1, 1), -1);
        due("it is proposed", x.proposed(1, 1, 0, 0), 4);
        due("no such page", x.take(2, 0), -1);
        due("no such field", x.take(1, 2), -1);
        due("acts", x.about(5), 4);
        due("take", x.take(1, 0), 1);
        due("one act", x.about(5), 5);
        due("marked from", x.marked(1, 0, 0, 0), 2);
        due("marked to", x.marked(1, 0, 0, 1), 5);
        due("learnt anew", x.stale(0), 0);
        due("take within", x.take(1, 1), 1);
        due("marked within", x.marked(1, 1, 0, 0), 4);
        due("an example now", x.take(1, 1), -1);
        due("undo", x.undo(), true);
        due("undone at once", x.marked(1, 1, -1, 0), 0);
        due("learnt as it was", x.field(1, 3), 1);
        x.unmark(1, 0);
        x.mark(1, 0, 2, 4);
        due("outside its parent's mark", x.take(1, 1), -1);
        x = Due.read(PLAIN);
        x.mark(0, 0, 2, 3);
        x.learn(0);
        due("nothing is proposed", x.take(1, 0), -1);
        due("not cut", x.take(2, 0), -1);
    }

    // Promises 14, 15
    private static void acts() {
        FieldCutter x = Due.read(PLAIN);
        due("nothing to undo", x.undo(), false);
        due("nothing to redo", x.redo(), false);
        for (int k = 0; k < 10; k++) {
            x.mark(0, 0, k % 3, 3);
            x.unmark(0, 0);
        }
        due("16 are kept", x.about(5), 16);
        for (int k = 1; k <= 16; k++) {
            due("undo " + k, x.undo(), true);
            due("marked after undo " + k, x.about(3), k % 2);
        }
        due("the oldest are gone", x.undo(), false);
        due("about(6)", x.about(6), 16);
        for (int k = 1; k <= 16; k++) {
            due("redo " + k, x.redo(), true);
        }
        due("no more", x.redo(), false);
        due("about(5)", x.about(5), 16);
        x.undo();
        due("from of the last", x.marked(0, 0, 0, 0), 0);
        x.undo();
        x.mark(1, 0, 0, 1);
        due("another act", x.redo(), false);
        due("about(5)", x.about(5), 15);
        due("about(6)", x.about(6), 0);
        x.learn(0);
        x.undo();
        due("learnt no more", x.about(4), 0);
        due("a refused act leaves redo", x.mark(1, 0, 0, 1), -1);
        due("redo", x.redo(), true);
        due("learnt again", x.about(4), 1);
    }

    // Promise 16
    private static void marked() {
        FieldCutter x = Due.read(LIST);
        x.mark(0, 0, 1, 2);
        x.mark(0, 0, 4, 6);
        due("parts", x.marked(0, 0, -1, 9), 2);
        due("from", x.marked(0, 0, 1, 0), 4);
        due("to", x.marked(0, 0, 1, 1), 6);
        due("another what", x.marked(0, 0, 1, 2), -1);
        due("another what", x.marked(0, 0, 1, -1), -1);
        due("no third", x.marked(0, 0, 2, 0), -1);
        due("i -2", x.marked(0, 0, -2, 0), -1);
        due("none there", x.marked(1, 0, -1, 0), 0);
        due("none there", x.marked(1, 0, 0, 0), -1);
        due("no such page", x.marked(2, 0, -1, 0), -1);
        due("no such field", x.marked(0, 1, -1, 0), -1);
    }

    private static void ruleIs(FieldCutter x, int k, int far, int near, int second, int stop) {
        due("rule far", x.rule(0, k, 0), far);
        due("rule near", x.rule(0, k, 1), near);
        due("rule second", x.rule(0, k, 2), second);
        due("rule stop", x.rule(0, k, 3), stop);
    }

    // Promise 17
    private static void rules() {
        FieldCutter x = Due.read(TURNED);
        due("nothing is learnt", x.rule(0, 0, 0), -2);
        x.mark(0, 0, 3, 4);
        x.mark(2, 0, 1, 2);
        due("learn", x.learn(0), 2);
        ruleIs(x, 0, -1, 4, 5, -1);
        ruleIs(x, 1, -1, 5, -1, 3);
        due("cost", x.rule(0, 0, 4), 4);
        due("no third", x.rule(0, 2, 0), -2);
        due("k -1", x.rule(0, -1, 0), -2);
        due("another what", x.rule(0, 0, 5), -2);
        due("another what", x.rule(0, 0, -1), -2);
        due("no such field", x.rule(1, 0, 0), -2);
        due("no such field", x.rule(-1, 0, 0), -2);
        x.unmark(2, 0);
        due("as it was learnt", x.rule(0, 1, 3), 3);
        x = Due.read("field v;page a 1 end;page b 2 end;");
        x.mark(0, 0, 1, 2);
        x.mark(1, 0, 1, 2);
        x.learn(0);
        // Far and near of kind 0 are like in cost; none ahead of 0.
        ruleIs(x, 0, -1, 0, -1, -1);
        due("cost of a kind", x.rule(0, 0, 4), 3);
    }

    // Promise 18
    private static void tries() {
        FieldCutter x = Due.read(PLAIN);
        due("no example", x.tries(0, 0, -1, -1, -1, -1), -1);
        x.mark(0, 0, 2, 3);
        due("near", x.tries(0, 0, -1, 4, -1, -1), 1);
        due("far", x.tries(0, 0, 4, -1, -1, -1), 1);
        due("near as kind", x.tries(0, 0, -1, 2, -1, -1), 1);
        due("two near", x.tries(0, 0, -1, 0, 2, -1), 1);
        due("two near not side by side", x.tries(0, 0, -1, 3, 5, -1), 0);
        due("far, then near", x.tries(0, 0, 3, 4, -1, -1), 1);
        due("near not behind far", x.tries(0, 0, 4, 4, -1, -1), 0);
        due("near the far one", x.tries(0, 0, 3, 3, 4, -1), 0);
        due("nothing but the region", x.tries(0, 0, -1, -1, -1, -1), 2);
        due("stop", x.tries(0, 0, -1, -1, -1, 4), 2);
        due("stop not found", x.tries(0, 0, -1, 4, -1, 4), 0);
        due("a part without tokens", x.tries(0, 0, -1, 5, -1, -1), 0);
        due("a token of another page", x.tries(0, 0, -1, 9, -1, -1), 0);
        due("an item that there is not", x.tries(0, 0, -1, 10, -1, -1), -1);
        due("far that there is not", x.tries(0, 0, 10, -1, -1, -1), -1);
        due("stop that there is not", x.tries(0, 0, -1, -1, -1, 10), -1);
        due("an item below none", x.tries(0, 0, -2, -1, -1, -1), -1);
        due("second without first", x.tries(0, 0, -1, -1, 4, -1), -1);
        due("no example", x.tries(1, 0, -1, 4, -1, -1), -1);
        due("no such page", x.tries(3, 0, -1, 4, -1, -1), -1);
        due("no such field", x.tries(0, 1, -1, 4, -1, -1), -1);
        x = Due.read(NEST);
        x.mark(0, 0, 2, 5);
        x.mark(0, 1, 4, 5);
        due("the region is the parent's mark", x.tries(0, 1, -1, 6, -1, -1), 1);
        due("what is ahead of it is not found", x.tries(0, 1, 4, 6, -1, -1), 0);
        due("nor what is behind it", x.tries(0, 1, -1, 6, -1, 4), 0);
        due("all of the region", x.tries(0, 1, -1, -1, -1, -1), 2);
    }

    private static void stops() {
        FieldCutter x = Due.read("field v;field it many;page : . a . b end;");
        x.mark(0, 0, 1, 3);
        due("the part's first token is no stop", x.tries(0, 0, -1, 3, -1, 4), 1);
        due("nor as a kind", x.tries(0, 0, -1, 3, -1, 2), 1);
        due("stop at the next one", x.tries(0, 0, -1, 3, -1, 0), 2);
        // From 0: [0,1) stops at 1; from 1: [1,3) stops at 3; from 3: no stop behind 3.
        x.mark(0, 1, 0, 1);
        x.mark(0, 1, 1, 3);
        due("again from behind the part", x.tries(0, 1, -1, -1, -1, 4), 1);
        due("once", x.tries(0, 0, -1, -1, -1, 4), 2);
        // Far is looked for again, too: behind : there is [1,3), then no : is found.
        due("far again", x.tries(0, 1, 3, -1, -1, 4), 2);
        FieldCutter y = Due.read("field it many;page a 1 a 2 a 3 a 4 a 5 a 6 a 7 a 8 a 9 a 10 end;");
        for (int k = 0; k < 7; k++) {
            y.mark(0, 0, 2 * k + 1, 2 * k + 2);
        }
        due("eight are cut", y.tries(0, 0, -1, 3, -1, 3), 2);
        y.mark(0, 0, 15, 16);
        due("eight at most", y.tries(0, 0, -1, 3, -1, 3), 1);
        due("without stop but one is cut", y.tries(0, 0, -1, 3, -1, -1), 2);
    }

    // Promise 19
    private static void could() {
        FieldCutter x = Due.read(PLAIN);
        due("no example", x.could(0, 0), 0);
        due("no example", x.could(0, 1), 0);
        x.mark(0, 0, 2, 3);
        // near none: far none, 0, a, 2, :; near one, twice: far none, 0, a; near two: 4 times none.
        due("can be", x.could(0, 0), 15);
        due("good", x.could(0, 1), 12);
        due("another what", x.could(0, 2), -1);
        due("another what", x.could(0, -1), -1);
        due("no such field", x.could(1, 0), -1);
        due("no such field", x.could(-1, 0), -1);
        x = Due.read(CLASH);
        x.mark(0, 0, 0, 1);
        due("stops", x.could(0, 0), 3);
        due("good", x.could(0, 1), 2);
        x.mark(1, 0, 1, 2);
        due("unlike ones of both", x.could(0, 0), 7);
        due("none is good", x.could(0, 1), 0);
    }

    // Promises 20, 21
    private static void covers() {
        FieldCutter x = Due.read(TURNED);
        due("no rules", x.cover(0, 0), 0);
        due("no cost", x.cover(0, 1), 0);
        due("none hopeless", x.cover(0, 2), 0);
        due("no rule", x.covers(0, 0, 0), -2);
        x.mark(0, 0, 3, 4);
        x.mark(2, 0, 1, 2);
        due("rules", x.cover(0, 0), 2);
        due("cost", x.cover(0, 1), 8);
        due("none hopeless", x.cover(0, 2), 0);
        due("far", x.covers(0, 0, 0), -1);
        due("near", x.covers(0, 0, 1), 4);
        due("second", x.covers(0, 0, 2), 5);
        due("stop", x.covers(0, 1, 3), 3);
        due("cost", x.covers(0, 1, 4), 4);
        due("right on", x.covers(0, 0, 5), 1);
        due("right on", x.covers(0, 1, 5), 4);
        due("no third", x.covers(0, 2, 0), -2);
        due("k -1", x.covers(0, -1, 0), -2);
        due("another what", x.covers(0, 0, 6), -2);
        due("another what", x.covers(0, 0, -1), -2);
        due("no such field", x.covers(1, 0, 0), -2);
        due("another what", x.cover(0, 3), -1);
        due("another what", x.cover(0, -1), -1);
        due("no such field", x.cover(1, 0), -1);
        due("no such field", x.cover(-1, 0), -1);
        x = Due.read(CLASH);
        x.mark(0, 0, 0, 1);
        x.mark(1, 0, 1, 2);
        due("no rule", x.cover(0, 0), 0);
        due("both hopeless", x.cover(0, 2), 3);
    }

    private static void coverOrder() {
        // One rule of two kinds is dearer than two rules, but one is fewer.
        FieldCutter x = Due.read("field v;page q a 1 end;page q b 2 end;");
        x.mark(0, 0, 2, 3);
        x.mark(1, 0, 2, 3);
        // q and one word behind it: far q, near kind 0, or near q, second kind 0: cost 5, far none ahead.
        due("one rule", x.cover(0, 0), 1);
        due("its cost", x.cover(0, 1), 5);
        due("far none", x.covers(0, 0, 0), -1);
        due("near q", x.covers(0, 0, 1), 3);
        due("second a word", x.covers(0, 0, 2), 0);
        due("right on both", x.covers(0, 0, 5), 3);
        // Of like cost the lesser number: near a token is cheaper than near a kind.
        x = Due.read("field v;page a b 1 end;");
        x.mark(0, 0, 2, 3);
        due("near b", x.covers(0, 0, 1), 4);
        due("cost of a token", x.cover(0, 1), 2);
        // All of the region costs nothing.
        x = Due.read("field v;page a b end;");
        x.mark(0, 0, 0, 2);
        due("a rule of nothing", x.cover(0, 0), 1);
        due("costs nothing", x.cover(0, 1), 0);
        due("near none", x.covers(0, 0, 1), -1);
        // A hopeless example is left out, others are covered: page 1 is no end of : x, page 0 none else.
        x = Due.read("field v;page a : 1 end;page a b end;page a b end;");
        x.mark(0, 0, 2, 3);
        x.mark(1, 0, 0, 1);
        x.mark(2, 0, 1, 2);
        due("two are hopeless", x.cover(0, 2), 6);
        due("one is covered", x.cover(0, 0), 1);
        due("on page 0", x.covers(0, 0, 5), 1);
    }

    private static void coverTies() {
        // One rule for both: : behind a number. The number stands far, as a kind: 3 and 2.
        FieldCutter x = Due.read("field v;page a : : 1 x : 5 end;page b : : 2 y : 6 end;");
        x.mark(0, 0, 6, 7);
        x.mark(1, 0, 6, 7);
        due("one rule", x.cover(0, 0), 1);
        due("cost", x.cover(0, 1), 5);
        due("far a number", x.covers(0, 0, 0), 1);
        due("near :", x.covers(0, 0, 1), 4);
        // Near a word, stop a (pages 0 and 2), then near a, stop b; or near a, stop a word (pages 0 and
        // 1), then near b, stop a: 9 together each; near a word is ahead of near a.
        x = Due.read("field v;page a 12 a end;page c a 12 b end;page b 12 12 a end;");
        x.mark(0, 0, 1, 2);
        x.mark(1, 0, 2, 3);
        x.mark(2, 0, 1, 3);
        due("two rules", x.cover(0, 0), 2);
        due("cost", x.cover(0, 1), 9);
        due("near", x.covers(0, 0, 1), 0);
        due("stop", x.covers(0, 0, 3), 3);
        due("right on", x.covers(0, 0, 5), 5);
        due("near", x.covers(0, 1, 1), 3);
        due("stop", x.covers(0, 1, 3), 6);
        due("right on", x.covers(0, 1, 5), 2);
    }

    /** What was found ahead of an ACT is not told behind it. */
    private static void foundAnew() {
        FieldCutter x = Due.read(PLAIN);
        x.mark(0, 0, 2, 3);
        due("could", x.could(0, 0), 15);
        due("votes", x.opinion(1, 0, 1), 8);
        x.image(0);
        x.unmark(0, 0);
        due("unmarked", x.could(0, 0), 0);
        due("no opinions", x.opinion(1, 0, 0), 0);
        x.undo();
        due("undone", x.could(0, 0), 15);
        due("two opinions", x.opinion(1, 0, 0), 2);
        x.redo();
        due("redone", x.could(0, 0), 0);
        due("no opinions", x.opinion(1, 0, 0), 0);
        x.back(0);
        due("as kept", x.could(0, 0), 15);
        due("two opinions", x.opinion(1, 0, 0), 2);
        x.mark(1, 0, 2, 4);
        // Of page 1 those that name b: far alone, far with each near, first of two with each second.
        due("of two examples", x.could(0, 0), 20);
        Due.tell(x, PLAIN);
        x.book();
        due("a new book", x.could(0, 0), 0);
        due("no opinions", x.opinion(1, 0, 0), 0);
        x = Due.read(NEST);
        x.mark(0, 0, 2, 5);
        x.mark(0, 1, 4, 5);
        due("no region", x.opinion(1, 1, 2), 0);
        x.learn(0);
        due("a region, the parent being learnt", x.opinion(1, 1, 2), 1);
        x = Due.read("field v;page a : 1 end;page b : 2 end;");
        x.mark(0, 0, 2, 3);
        x.learn(0);
        due("of one example", x.could(0, 0), 15);
        due("take", x.take(1, 0), 1);
        due("of two", x.could(0, 0), 20);
    }

    // Promise 22
    private static void contradictions() {
        FieldCutter x = Due.read("field v;page a b end;page a b end;page a : 1 end;");
        due("no examples", x.contradict(0, 0, 1), -1);
        x.mark(0, 0, 0, 1);
        due("one is none", x.contradict(0, 0, 1), -1);
        due("the other is none", x.contradict(0, 1, 0), -1);
        x.mark(1, 0, 1, 2);
        x.mark(2, 0, 2, 3);
        due("they do", x.contradict(0, 0, 1), 1);
        due("the other way round", x.contradict(0, 1, 0), 1);
        due("they don't", x.contradict(0, 0, 2), 0);
        due("they are one", x.contradict(0, 1, 1), -1);
        due("no such page", x.contradict(0, 0, 3), -1);
        due("no such page", x.contradict(0, -1, 0), -1);
        due("no such field", x.contradict(1, 0, 1), -1);
    }

    // Promise 23
    private static void stale() {
        FieldCutter x = Due.read(PLAIN);
        due("nothing is learnt", x.stale(0), -1);
        x.mark(0, 0, 2, 3);
        x.learn(0);
        due("as learnt", x.stale(0), 0);
        x.mark(1, 0, 2, 4);
        due("another shape", x.stale(0), 1);
        due("the same rule", x.covers(0, 0, 1), x.rule(0, 0, 1));
        x.undo();
        due("as learnt", x.stale(0), 0);
        x.unmark(0, 0);
        due("no example", x.stale(0), -1);
        due("no such field", x.stale(1), -1);
        due("no such field", x.stale(-1), -1);
        // Another rule, or one more, of the same shape.
        x = Due.read("field v;page a : 1 end;page b # 2 end;");
        x.mark(0, 0, 2, 3);
        x.learn(0);
        x.unmark(0, 0);
        x.mark(1, 0, 2, 3);
        due("another rule", x.stale(0), 1);
        x = Due.read(TURNED);
        x.mark(0, 0, 3, 4);
        x.learn(0);
        x.mark(2, 0, 1, 2);
        due("one rule more", x.stale(0), 1);
        // Like rules and lengths and kinds of ends, another pattern.
        x = Due.read("field v;page : 1 a 1 . end;page : 2 3 2 . end;");
        x.mark(0, 0, 1, 4);
        x.learn(0);
        due("pattern", x.pattern(0, 1), 0);
        x.mark(1, 0, 1, 4);
        due("another pattern", x.stale(0), 1);
    }

    // Promises 24, 25
    private static void cuts() {
        FieldCutter x = Due.read(PLAIN);
        due("nothing is learnt", x.cut(0, 0, -1, 0), -1);
        due("by none", x.by(0, 0), -1);
        x.mark(0, 0, 2, 3);
        x.learn(0);
        due("parts", x.cut(1, 0, -1, 7), 1);
        due("from", x.cut(1, 0, 0, 0), 2);
        due("to", x.cut(1, 0, 0, 1), 4);
        due("another what", x.cut(1, 0, 0, 2), -1);
        due("another what", x.cut(1, 0, 0, -1), -1);
        due("no second", x.cut(1, 0, 1, 0), -1);
        due("i -2", x.cut(1, 0, -2, 0), -1);
        due("not cut", x.cut(2, 0, -1, 0), 0);
        due("not cut", x.cut(2, 0, 0, 0), -1);
        due("no such page", x.cut(3, 0, -1, 0), -1);
        due("no such field", x.cut(0, 1, -1, 0), -1);
        due("by", x.by(1, 0), 0);
        due("by none", x.by(2, 0), -1);
        due("no such page", x.by(3, 0), -1);
        due("no such field", x.by(0, 1), -1);
        x.unmark(0, 0);
        due("learnt all the same", x.cut(1, 0, 0, 1), 4);
        x = Due.read(TURNED);
        x.mark(0, 0, 3, 4);
        x.mark(2, 0, 1, 2);
        x.learn(0);
        due("by the first", x.by(0, 0), 0);
        due("by the second", x.by(2, 0), 1);
        due("by none", x.by(1, 0), -1);
    }

    private static void cutsAgain() {
        FieldCutter x = Due.read(LIST);
        x.mark(0, 0, 1, 2);
        x.mark(0, 0, 4, 5);
        x.mark(0, 0, 7, 8);
        x.learn(0);
        due("three parts", x.cut(0, 0, -1, 0), 3);
        due("the third", x.cut(0, 0, 2, 0), 7);
        due("one part", x.cut(1, 0, -1, 0), 1);
        x = Due.read(NEST);
        x.mark(0, 0, 2, 5);
        x.mark(0, 1, 4, 5);
        x.learn(1);
        due("its parent is not learnt", x.cut(1, 1, -1, 0), 0);
        due("by none", x.by(1, 1), -1);
        x.learn(0);
        due("in its parent's cut", x.cut(1, 1, 0, 0), 4);
        due("to", x.cut(1, 1, 0, 1), 5);
    }

    // Promise 26
    private static void letters() {
        FieldCutter x = Due.read(LIST);
        due("nothing is learnt", x.letter(0, 0, -1), -1);
        x.mark(0, 0, 1, 2);
        x.mark(0, 0, 4, 5);
        x.mark(0, 0, 7, 8);
        x.learn(0);
        String text = "1/2/3";
        due("how many", x.letter(0, 0, -1), text.length());
        for (int i = 0; i < text.length(); i++) {
            due("letter " + i, x.letter(0, 0, i), text.charAt(i));
        }
        due("behind them", x.letter(0, 0, 5), -1);
        due("i -2", x.letter(0, 0, -2), -1);
        due("no such page", x.letter(2, 0, -1), -1);
        due("no such field", x.letter(0, 1, -1), -1);
        x = Due.read("field v;page : abcdefgh 0012 / x end;page y end;");
        x.mark(0, 0, 1, 5);
        x.learn(0);
        text = "abcdefgh 0012 / x";
        due("how many", x.letter(0, 0, -1), text.length());
        for (int i = 0; i < text.length(); i++) {
            due("letter " + i, x.letter(0, 0, i), text.charAt(i));
        }
        due("not cut", x.letter(1, 0, -1), -1);
        due("not cut", x.letter(1, 0, 0), -1);
    }

    // Promise 27
    private static void patterns() {
        FieldCutter x = Due.read(SHAPES);
        due("nothing is learnt", x.pattern(0, 0), -1);
        x.mark(0, 0, 2, 5);
        x.learn(0);
        due("place 0", x.pattern(0, 0), 1);
        due("place 1", x.pattern(0, 1), 0);
        due("place 2", x.pattern(0, 2), 1);
        due("place 3", x.pattern(0, 3), -1);
        due("place -1", x.pattern(0, -1), -1);
        due("no such field", x.pattern(1, 0), -1);
        x.mark(4, 0, 2, 5);
        x.learn(0);
        due("unlike kinds", x.pattern(0, 1), 3);
        x.mark(5, 0, 2, 3);
        x.learn(0);
        due("below the fewest", x.pattern(0, 0), 1);
        due("not below the fewest", x.pattern(0, 1), -1);
    }

    // Promise 28
    private static void proposals() {
        FieldCutter x = Due.read(SHAPES);
        due("nothing is learnt", x.proposed(1, 0, -1, 0), -1);
        x.mark(0, 0, 2, 5);
        due("nothing is learnt", x.proposed(1, 0, -1, 0), -1);
        x.learn(0);
        due("parts", x.proposed(1, 0, -1, 0), 1);
        due("from", x.proposed(1, 0, 0, 0), 2);
        due("to", x.proposed(1, 0, 0, 1), 5);
        due("an example, too", x.proposed(0, 0, 0, 1), 5);
        due("another what", x.proposed(1, 0, 0, 2), -1);
        due("no second", x.proposed(1, 0, 1, 0), -1);
        due("i -2", x.proposed(1, 0, -2, 0), -1);
        for (int p = 2; p < 6; p++) {
            due("drift " + p, x.proposed(p, 0, -1, 0), -1);
        }
        due("no such page", x.proposed(6, 0, -1, 0), -1);
        due("no such field", x.proposed(0, 1, -1, 0), -1);
        x = Due.read(NEST);
        x.mark(0, 0, 2, 5);
        x.mark(0, 1, 4, 5);
        x.learn(1);
        due("no region", x.proposed(1, 1, -1, 0), -1);
        x.learn(0);
        due("in the region", x.proposed(1, 1, 0, 0), 4);
    }

    // Promise 29
    private static void alike() {
        FieldCutter x = Due.read("field v;page a : 1 end;page b : 2 end;page c : 1 end;page q end;page d : 2 end;");
        due("nothing is learnt", x.alike(0, 0), -1);
        x.mark(0, 0, 2, 3);
        x.learn(0);
        due("itself", x.alike(0, 0), 0);
        due("itself", x.alike(1, 0), 1);
        due("page 0", x.alike(2, 0), 0);
        due("page 1", x.alike(4, 0), 1);
        due("not cut", x.alike(3, 0), -1);
        due("no such page", x.alike(5, 0), -1);
        due("no such field", x.alike(0, 1), -1);
    }

    // Promises 30, 31
    private static void drifts() {
        FieldCutter x = Due.read(SHAPES);
        due("nothing is learnt", x.drift(0, 0), -1);
        due("nothing is strange", x.strange(0), -1);
        x.mark(0, 0, 2, 5);
        x.learn(0);
        int[] drifts = {0, 0, 3, 4, 5, 2};
        for (int p = 0; p < 6; p++) {
            due("drift(" + p + ",0)", x.drift(p, 0), drifts[p]);
        }
        due("no such page", x.drift(6, 0), -1);
        due("no such field", x.drift(0, 1), -1);
        due("strange page", x.strange(0), 2);
        due("strange field", x.strange(1), 0);
        due("another what", x.strange(2), -1);
        due("another what", x.strange(-1), -1);
        x.mark(4, 0, 2, 5);
        x.learn(0);
        due("any kind is right there", x.drift(4, 0), 0);
        x = Due.read("field v;field w;page a : 1 end;page a : 2 end;page q end;");
        x.mark(0, 1, 2, 3);
        x.learn(1);
        due("one that is not learnt is not strange", x.strange(0), 2);
        due("the field", x.strange(1), 1);
        due("not cut", x.drift(2, 1), 1);
        x.undo();
        x.mark(1, 0, 0, 3);
        x.learn(0);
        x.learn(1);
        due("by pages, then by fields", x.strange(0), 2);
        due("the first field", x.strange(1), 0);
        // A part that is too long is worse than one whose first token is of another kind.
        x = Due.read("field it many;page : 1 . : 2 . end;page : a . : 2 2 . end;");
        x.mark(0, 0, 1, 2);
        x.mark(0, 0, 4, 5);
        x.learn(0);
        due("both parts", x.cut(1, 0, -1, 0), 2);
        due("the least", x.drift(1, 0), 2);
        Due.tell(x, "page : 2 2 . : a . end;");
        x.page();
        due("the least, the other way round", x.drift(2, 0), 2);
        x = Due.read(CLASH);
        x.mark(0, 0, 0, 1);
        x.mark(1, 0, 1, 2);
        x.learn(0);
        due("page 0 is strange", x.strange(0), 0);
    }

    // Promise 32
    private static void sturdy() {
        FieldCutter x = Due.read(PLAIN);
        due("nothing is learnt", x.sturdy(0, 0), -1);
        x.mark(0, 0, 2, 3);
        x.learn(0);
        due("all but : and 1", x.sturdy(0, 0), 1);
        due("all but : and 2 and 3", x.sturdy(1, 0), 1);
        due("not cut", x.sturdy(2, 0), -1);
        due("no such page", x.sturdy(3, 0), -1);
        due("no such field", x.sturdy(0, 1), -1);
        x = Due.read(NEST);
        x.mark(0, 0, 2, 5);
        x.mark(0, 1, 4, 5);
        x.learn(0);
        x.learn(1);
        // Without the first # the row is 'y', without the second none is cut; x, 1 and y may go.
        due("the parent is cut anew", x.sturdy(0, 1), 3);
        x = Due.read("field v;page 1 end;");
        x.mark(0, 0, 0, 1);
        x.learn(0);
        due("an empty page is not cut", x.sturdy(0, 0), 0);
    }

    // Promise 33
    private static void right() {
        FieldCutter x = Due.read(TURNED);
        due("nothing is learnt", x.right(0), -1);
        x.mark(0, 0, 3, 4);
        x.learn(0);
        due("one", x.right(0), 1);
        x.mark(2, 0, 1, 2);
        due("one of two", x.right(0), 1);
        x.learn(0);
        due("both", x.right(0), 2);
        x.unmark(0, 0);
        x.unmark(2, 0);
        due("no examples", x.right(0), 0);
        due("no such field", x.right(1), -1);
        due("no such field", x.right(-1), -1);
        x = Due.read(NEST);
        x.mark(0, 0, 2, 5);
        x.mark(0, 1, 4, 5);
        x.learn(1);
        due("in its parent's mark", x.right(1), 1);
    }

    // Promise 34
    private static void enough() {
        FieldCutter x = Due.read(TURNED);
        due("it has none", x.enough(0), -1);
        x.mark(2, 0, 1, 2);
        due("the one", x.enough(0), 4);
        x.mark(0, 0, 3, 4);
        due("both", x.enough(0), 5);
        due("no such field", x.enough(1), -1);
        due("no such field", x.enough(-1), -1);
        x = Due.read(PLAIN);
        x.mark(1, 0, 2, 4);
        x.mark(0, 0, 2, 3);
        due("of like ones the least", x.enough(0), 1);
        x = Due.read(CLASH);
        x.mark(0, 0, 0, 1);
        x.mark(1, 0, 1, 2);
        due("no such set", x.enough(0), 0);
        // By page 0 alone near : without stop, wrong on page 1; by page 1 alone with stop, silent on page 0.
        x = Due.read("field v;page a : 1 end;page b : 2 . end;");
        x.mark(0, 0, 2, 3);
        x.mark(1, 0, 2, 3);
        due("two", x.enough(0), 3);
    }

    // Promise 35
    private static void opinions() {
        FieldCutter x = Due.read(PLAIN);
        due("no rules, no opinions", x.opinion(0, 0, 0), 0);
        due("no votes", x.opinion(0, 0, 1), -1);
        x.mark(0, 0, 2, 3);
        due("all of one", x.opinion(0, 0, 0), 1);
        due("votes", x.opinion(0, 0, 1), 12);
        // Those of 12 that name a are silent: far a twice, near a as the first of two twice.
        due("two", x.opinion(1, 0, 0), 2);
        due("votes", x.opinion(1, 0, 1), 8);
        due("parts", x.opinion(1, 0, 2), 1);
        due("from", x.opinion(1, 0, 3), 2);
        due("to", x.opinion(1, 0, 4), 4);
        due("for none", x.opinion(2, 0, 0), 1);
        due("votes", x.opinion(2, 0, 1), 12);
        due("parts", x.opinion(2, 0, 2), 0);
        due("from", x.opinion(2, 0, 3), -1);
        due("to", x.opinion(2, 0, 4), -1);
        due("another what", x.opinion(1, 0, 5), -1);
        due("another what", x.opinion(1, 0, -1), -1);
        due("no such page", x.opinion(3, 0, 0), -1);
        due("no such field", x.opinion(0, 1, 0), -1);
        x = Due.read(NEST);
        x.mark(0, 0, 2, 5);
        x.mark(0, 1, 4, 5);
        due("no region: all for none", x.opinion(0, 1, 0), 1);
        due("no parts", x.opinion(0, 1, 2), 0);
        x.learn(0);
        due("a region now", x.opinion(0, 1, 2), 1);
        due("in the parent's cut", x.opinion(1, 1, 3), 4);
        // Far or near a as itself, far or near a as a word: two votes each on page 1, and the first
        // rule, being the cheaper one, names a itself.
        x = Due.read("field v;page a 1 end;page b 2 a 3 end;");
        x.mark(0, 0, 1, 2);
        due("two opinions", x.opinion(1, 0, 0), 2);
        due("two votes each", x.opinion(1, 0, 1), 2);
        due("of the first rule", x.opinion(1, 0, 3), 3);
    }

    // Promise 36
    private static void next() {
        FieldCutter x = Due.read(PLAIN);
        due("of like ones the first", x.next(0), 0);
        x.mark(0, 0, 2, 3);
        due("the most opinions", x.next(0), 1);
        x.mark(1, 0, 2, 4);
        due("the only one", x.next(0), 2);
        x.mark(2, 0, 0, 1);
        due("all are examples", x.next(0), -1);
        due("no such field", x.next(1), -1);
        due("no such field", x.next(-1), -1);
    }

    // Promise 37
    private static void without() {
        FieldCutter x = Due.read("field v;page a b end;page a b end;page a : 1 end;");
        x.mark(0, 0, 0, 1);
        x.mark(1, 0, 1, 2);
        x.mark(2, 0, 2, 3);
        due("two are hopeless", x.cover(0, 2), 3);
        // What is right for page 1 begins behind the first word: wrong on page 2.
        due("without page 0", x.without(0, 0), 1);
        due("without page 1", x.without(1, 0), 0);
        due("without page 2", x.without(2, 0), 2);
        due("it stays", x.field(0, 2), 7);
        due("no such page", x.without(3, 0), -1);
        due("no such page", x.without(-1, 0), -1);
        due("no such field", x.without(0, 1), -1);
        x.unmark(0, 0);
        due("it is none", x.without(0, 0), -1);
    }

    // Promises 38, 39
    private static void images() {
        FieldCutter x = Due.read(PLAIN);
        due("nothing was kept", x.back(0), -1);
        x.mark(0, 0, 2, 3);
        x.learn(0);
        due("image", x.image(0), 1);
        due("no act", x.about(5), 2);
        x.mark(1, 0, 2, 4);
        x.learn(0);
        Due.tell(x, "page d : 4 end;");
        x.page();
        due("image", x.image(1), 2);
        x.undo();
        due("back", x.back(0), 1);
        due("pages", x.about(1), 3);
        due("no acts", x.about(5), 0);
        due("none to redo", x.about(6), 0);
        due("undo", x.undo(), false);
        due("learnt as it was", x.field(0, 5), 1);
        Due.tell(x, "page z end;");
        x.page();
        due("back", x.back(1), 2);
        due("the page as it was", x.tokens(3), 3);
        due("its tokens", x.about(2), 9);
        due("learnt as it was", x.field(0, 5), 2);
        x.unmark(0, 0);
        due("back again", x.back(1), 2);
        due("over what was kept", x.image(0), 2);
        due("no such box", x.image(2), -1);
        due("no such box", x.image(-1), -1);
        due("no such box", x.back(2), -1);
        due("no such box", x.back(-1), -1);
    }

    // Promise 40
    private static void about() {
        FieldCutter x = Due.read("field a;field b many;page x : 1 end;page x : 2 end;");
        x.mark(0, 0, 2, 3);
        x.mark(0, 1, 0, 1);
        x.mark(0, 1, 2, 3);
        x.learn(1);
        x.learn(0);
        x.undo();
        Due.tell(x, "page");
        int[] want = {2, 2, 4, 3, 2, 4, 1, 4};
        for (int what = 0; what < want.length; what++) {
            due("about(" + what + ")", x.about(what), want[what]);
        }
        due("about(8)", x.about(8), -1);
        due("about(-1)", x.about(-1), -1);
    }
}
