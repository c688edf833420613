import java.util.ArrayList;
import java.util.List;

/**
 * Every call, refused for each of its arguments alone, from a state in which it is not refused: the
 * answer, and that all is as it was. Calls that only ask leave all as it was, too.
 */
public final class RefusalTest {
    private static final int N = FieldCutter.NONE;
    private static final int LEAST = Integer.MIN_VALUE;
    private static final int MOST = Integer.MAX_VALUE;
    private static final String BOOK = "field row;field cell of row;field it many;"
            + "page x # 1 = 2 # y end;page x # 3 = 4 # y end;page x q end;page x # 5 = 6 # y end;";

    private static final int[] PAGES = {-1, 4, 5, 6, 32, 64, LEAST, MOST};
    private static final int[] FIELDS = {-1, 3, 4, 32, 64, LEAST, MOST};
    private static final int[] BOXES = {-1, 2, 3, LEAST, MOST};

    /** A call with its arguments in a row. */
    private interface Call {
        long on(FieldCutter x, int[] a);
    }

    public static void main(String[] args) {
        tape();
        questionsOfTokens();
        acts();
        questionsOfRules();
        questionsOfCuts();
        questionsOfVotes();
        boxes();
        refusedWithoutArguments();
        Due.finish("RefusalTest");
    }

    /** Marked, learnt, one act taken back, something on the tape, one box full, a fault known. */
    private static FieldCutter busy() {
        FieldCutter x = Due.read(BOOK);
        x.mark(0, 0, 2, 5);
        x.mark(0, 1, 4, 5);
        x.mark(0, 2, 2, 3);
        x.mark(1, 0, 2, 5);
        x.image(0);
        x.mark(0, 2, 4, 5);
        x.learn(0);
        x.learn(1);
        x.learn(2);
        x.mark(3, 2, 0, 1);
        x.undo();
        Due.tell(x, "page");
        x.book();
        Due.tell(x, "tape");
        return x;
    }

    /** What can be seen of a state without doing anything, in some 170 calls. */
    private static String shown(FieldCutter x) {
        StringBuilder s = new StringBuilder();
        for (int what = 0; what < 8; what++) {
            s.append(x.about(what)).append(' ');
        }
        s.append(x.fault(0)).append(' ').append(x.fault(1)).append(" fields ");
        for (int f = 0; f < 3; f++) {
            for (int what = 0; what < 8; what++) {
                s.append(x.field(f, what)).append(' ');
            }
            s.append(x.rule(f, 0, 1)).append(' ').append(x.pattern(f, 0)).append(' ').append(x.stale(f)).append(' ');
            s.append(x.could(f, 1)).append(' ').append(x.right(f)).append(" pages ");
            for (int p = 0; p < 4; p++) {
                s.append(x.marked(p, f, N, 0)).append(' ').append(x.marked(p, f, 0, 0)).append(' ');
                s.append(x.marked(p, f, 1, 1)).append(' ').append(x.opinion(p, f, 1)).append(' ');
                s.append(x.cut(p, f, 0, 0)).append(' ').append(x.cut(p, f, 0, 1)).append(' ');
            }
        }
        return s.append(x.tokens(3)).append(' ').append(x.token(3, 6, 1)).toString();
    }

    /** That nothing was done shows in what was taken back and in what was kept, as well. */
    private static void unchanged(String call, FieldCutter x, String before) {
        Due.due(call + " leaves all", shown(x).equals(before), true);
        Due.due(call + " leaves what was taken back", x.redo(), true);
        Due.due(call + ": the part is marked again", x.marked(3, 2, 0, 1), 1);
        Due.due(call + " leaves box 0", x.back(0), 4);
        Due.due(call + " leaves box 1 empty", x.back(1), -1);
    }

    private static void refused(String name, Call call, int answer, int[] fine, int[][] bad) {
        FieldCutter y = busy();
        Due.due(name + " is not refused", call.on(y, fine) != answer, true);
        for (int k = 0; k < fine.length; k++) {
            for (int b : bad[k]) {
                FieldCutter x = busy();
                String before = shown(x);
                int[] with = fine.clone();
                with[k] = b;
                String told = name + ", argument " + k + " being " + b;
                Due.due(told, call.on(x, with), answer);
                unchanged(told, x, before);
            }
        }
    }

    private static void asked(String name, Call call, int answer, int[] fine, int[][] bad) {
        refused(name, call, answer, fine, bad);
        FieldCutter x = busy();
        String before = shown(x);
        call.on(x, fine);
        unchanged(name, x, before);
    }

    private static int[] some(int... values) {
        return values;
    }

    private static void tape() {
        asked("end", (x, a) -> x.end(a[0]), -1, some(4), new int[][] {some(-1, 5, 900, LEAST, MOST)});
        asked("fault", (x, a) -> x.fault(a[0]), -1, some(1), new int[][] {some(-1, 2, LEAST, MOST)});
        asked("about", (x, a) -> x.about(a[0]), -1, some(7), new int[][] {some(-1, 8, LEAST, MOST)});
    }

    private static void questionsOfTokens() {
        asked("field", (x, a) -> x.field(a[0], a[1]), -1, some(1, 0), new int[][] {FIELDS, some(-1, 8, LEAST, MOST)});
        asked("tokens", (x, a) -> x.tokens(a[0]), -1, some(3), new int[][] {PAGES});
        asked("token", (x, a) -> x.token(a[0], a[1], a[2]), -1, some(3, 6, 2),
                new int[][] {PAGES, some(-1, 7, 40, LEAST, MOST), some(-1, 3, LEAST, MOST)});
        asked("marked", (x, a) -> x.marked(a[0], a[1], a[2], a[3]), -1, some(0, 2, 1, 1),
                new int[][] {PAGES, FIELDS, some(-2, 2, 8, LEAST, MOST), some(-1, 2, LEAST, MOST)});
    }

    private static void acts() {
        // A part behind the two of field 2, within the page.
        refused("mark", (x, a) -> x.mark(a[0], a[1], a[2], a[3]), -1, some(0, 2, 5, 6),
                new int[][] {PAGES, FIELDS, some(-1, 4, 2, 0, 6, 7, LEAST, MOST), some(5, 4, 8, -1, LEAST, MOST)});
        refused("mark within its parent's", (x, a) -> x.mark(a[0], a[1], a[2], a[3]), -1, some(1, 1, 3, 4),
                new int[][] {some(0, 2, 3, 4, -1), some(-1, 0, 3), some(1, 0, 4, 5, LEAST), some(3, 6, 7, MOST)});
        refused("unmark", (x, a) -> x.unmark(a[0], a[1]), -1, some(0, 1),
                new int[][] {some(-1, 1, 2, 4, 6, LEAST, MOST), FIELDS});
        refused("learn", (x, a) -> x.learn(a[0]), -1, some(0), new int[][] {FIELDS});
        refused("take", (x, a) -> x.take(a[0], a[1]), -1, some(3, 0),
                new int[][] {some(0, 1, 2, 4, -1, 6, LEAST, MOST), some(1, 3, -1, 4, LEAST, MOST)});
    }

    private static void questionsOfRules() {
        int[] items = {-2, 14, 15, 243, 256, LEAST, MOST};
        asked("rule", (x, a) -> x.rule(a[0], a[1], a[2]), -2, some(0, 0, 4),
                new int[][] {FIELDS, some(-1, 1, 2, 6, LEAST, MOST), some(-1, 5, LEAST, MOST)});
        asked("tries", (x, a) -> x.tries(a[0], a[1], a[2], a[3], a[4], a[5]), -1, some(0, 1, 5, 6, N, 13),
                new int[][] {some(-1, 1, 2, 3, 4, 6, LEAST, MOST), FIELDS, items, items, items, items});
        asked("tries without near", (x, a) -> x.tries(a[0], a[1], N, a[2], a[3], N), -1, some(0, 1, 3, 3),
                new int[][] {{}, {}, some(-1), {}});
        asked("could", (x, a) -> x.could(a[0], a[1]), -1, some(0, 1), new int[][] {FIELDS, some(-1, 2, LEAST, MOST)});
        asked("cover", (x, a) -> x.cover(a[0], a[1]), -1, some(0, 0), new int[][] {FIELDS, some(-1, 3, LEAST, MOST)});
        asked("covers", (x, a) -> x.covers(a[0], a[1], a[2]), -2, some(0, 0, 5),
                new int[][] {FIELDS, some(-1, 1, 2, 6, LEAST, MOST), some(-1, 6, LEAST, MOST)});
        asked("contradict", (x, a) -> x.contradict(a[0], a[1], a[2]), -1, some(0, 0, 1),
                new int[][] {FIELDS, some(-1, 1, 2, 3, 4, 32, LEAST, MOST), some(-1, 0, 2, 3, 4, 33, LEAST, MOST)});
        asked("stale", (x, a) -> x.stale(a[0]), -1, some(0), new int[][] {FIELDS});
    }

    private static void questionsOfCuts() {
        asked("cut", (x, a) -> x.cut(a[0], a[1], a[2], a[3]), -1, some(3, 1, 0, 1),
                new int[][] {some(2, -1, 4, 6, LEAST, MOST), FIELDS, some(-2, 1, 8, LEAST, MOST), some(-1, 2, LEAST,
                        MOST)});
        asked("by", (x, a) -> x.by(a[0], a[1]), -1, some(3, 1), new int[][] {some(2, -1, 4, 6, LEAST, MOST), FIELDS});
        asked("letter", (x, a) -> x.letter(a[0], a[1], a[2]), -1, some(3, 1, 0),
                new int[][] {some(2, -1, 4, 6, LEAST, MOST), FIELDS, some(-2, 1, 400, LEAST, MOST)});
        asked("pattern", (x, a) -> x.pattern(a[0], a[1]), -1, some(0, 2), new int[][] {FIELDS, some(-1, 3, 40, LEAST,
                MOST)});
        asked("alike", (x, a) -> x.alike(a[0], a[1]), -1, some(3, 1), new int[][] {some(2, -1, 4, 6, LEAST, MOST),
                FIELDS});
        asked("drift", (x, a) -> x.drift(a[0], a[1]), -1, some(2, 1), new int[][] {PAGES, FIELDS});
        asked("strange", (x, a) -> x.strange(a[0]), -1, some(0), new int[][] {some(-1, 2, LEAST, MOST)});
        asked("sturdy", (x, a) -> x.sturdy(a[0], a[1]), -1, some(3, 1), new int[][] {some(2, -1, 4, 6, LEAST, MOST),
                FIELDS});
        asked("right", (x, a) -> x.right(a[0]), -1, some(0), new int[][] {FIELDS});
    }

    private static void questionsOfVotes() {
        asked("proposed", (x, a) -> x.proposed(a[0], a[1], a[2], a[3]), -1, some(3, 0, 0, 1),
                new int[][] {some(2, -1, 4, 6, LEAST, MOST), FIELDS, some(-2, 1, 8, LEAST, MOST), some(-1, 2, LEAST,
                        MOST)});
        asked("enough", (x, a) -> x.enough(a[0]), -1, some(0), new int[][] {FIELDS});
        asked("opinion", (x, a) -> x.opinion(a[0], a[1], a[2]), -1, some(3, 0, 4), new int[][] {PAGES, FIELDS, some(-1,
                5, LEAST, MOST)});
        asked("next", (x, a) -> x.next(a[0]), -1, some(0), new int[][] {FIELDS});
        asked("without", (x, a) -> x.without(a[0], a[1]), -1, some(0, 0),
                new int[][] {some(2, 3, -1, 4, 6, LEAST, MOST), FIELDS});
    }

    private static void boxes() {
        refused("image", (x, a) -> x.image(a[0]), -1, some(0), new int[][] {BOXES});
        refused("back", (x, a) -> x.back(a[0]), -1, some(0), new int[][] {some(1, -1, 2, LEAST, MOST)});
    }

    /** Calls without arguments, or with any, refused for the state alone. */
    private static void refusedWithoutArguments() {
        List<String> texts = new ArrayList<>(List.of("", "page x", "page x end;page", "$", "field a;", "page end;"));
        for (String text : texts) {
            FieldCutter x = busy();
            x.end(0);
            Due.tell(x, text);
            x.page();
            int fault = x.fault(0);
            int place = x.fault(1);
            String then = shown(x);
            Due.tell(x, text);
            Due.due("page() of [" + text + "]", x.page(), -1);
            Due.due("its fault", x.fault(0), fault);
            Due.due("its place", x.fault(1), place);
            unchanged("page() of [" + text + "]", x, then);
        }
        FieldCutter x = busy();
        x.end(0);
        String empty = " ".repeat(20);
        for (int k = 0; k < 45; k++) {
            Due.tell(x, empty);
        }
        String before = shown(x);
        Due.due("a feed too many", x.feed(1, 2, 3, 4, 5), -1);
        unchanged("a feed too many", x, before);
        x = busy();
        x.redo();
        before = shown(x);
        Due.due("redo of none", x.redo(), false);
        Due.due("redo of none leaves all", shown(x).equals(before), true);
        x = busy();
        for (int k = 0; k < 8; k++) {
            Due.due("undo " + k, x.undo(), true);
        }
        before = shown(x);
        Due.due("undo of none", x.undo(), false);
        Due.due("undo of none leaves all", shown(x).equals(before), true);
        Due.due("redo is there", x.redo(), true);
    }
}
