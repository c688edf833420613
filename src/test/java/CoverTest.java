import java.util.Random;

/**
 * Books drawn from fixed seeds whose COVER has several RULES to choose from: all or most pages are
 * marked, each near other landmarks. What is asked of EXAMPLES is set against the Model.
 */
public final class CoverTest {
    private final FieldCutter x = new FieldCutter();
    private final Model y = new Model();
    private final Random dice;
    private String text = "";

    private CoverTest(long seed) {
        dice = new Random(seed);
    }

    public static void main(String[] args) {
        int runs = args.length > 0 ? Integer.parseInt(args[0]) : 3000;
        int several = 0;
        for (int run = 0; run < runs; run++) {
            CoverTest test = new CoverTest(run * 31L + 5);
            test.play();
            several += test.x.cover(0, 0) > 1 ? 1 : 0;
        }
        new CoverTest(0).manyOpinions();
        Due.due("enough covers of several rules", several > runs / 5, true);
        Due.finish("CoverTest");
    }

    private int below(int n) {
        return dice.nextInt(n);
    }

    private void tell(String more) {
        for (int at = 0; at < more.length(); at += 20) {
            int[] n = new int[5];
            for (int k = 0; k < 20; k++) {
                int c = at + k < more.length() ? more.charAt(at + k) : 0;
                n[k / 4] |= c << (24 - k % 4 * 8);
            }
            x.feed(n[0], n[1], n[2], n[3], n[4]);
            y.feed(n[0], n[1], n[2], n[3], n[4]);
        }
        x.end(more.length());
        y.end(more.length());
    }

    private void play() {
        String[] marks = {"a", "b", "c", ":", "#", "7"};
        int kinds = 2 + below(5);
        int pages = 3 + below(4);
        boolean many = below(4) == 0;
        int[] at = new int[pages];
        int[] size = new int[pages];
        int[] again = new int[pages];
        StringBuilder s = new StringBuilder(many ? "field v many;" : "field v;");
        for (int p = 0; p < pages; p++) {
            at[p] = below(4);
            size[p] = below(5) == 0 ? 2 : 1;
            again[p] = many ? below(3) : 0;
            s.append("page ");
            for (int r = 0; r <= again[p]; r++) {
                for (int i = 0; i < at[p]; i++) {
                    s.append(marks[below(kinds)]).append(' ');
                }
                for (int i = 0; i < size[p]; i++) {
                    s.append(below(4) == 0 ? "z " : "12 ");
                }
            }
            int tail = below(3);
            for (int i = 0; i < tail; i++) {
                s.append(marks[below(kinds)]).append(' ');
            }
            s.append("end;");
        }
        text = s.toString();
        tell(text);
        due("book()", x.book(), y.book());
        for (int p = 0; p < pages; p++) {
            if (below(8) > 0) {
                int from = at[p];
                for (int r = 0; r <= again[p]; r++) {
                    due("mark", x.mark(p, 0, from, from + size[p]), y.mark(p, 0, from, from + size[p]));
                    from += size[p] + at[p];
                }
            }
        }
        ask(pages);
    }

    /** Each far word leads to two begins on the last page, each begin to one end a stop. */
    private void manyOpinions() {
        StringBuilder far = new StringBuilder();
        StringBuilder last = new StringBuilder();
        for (char c = 'a'; c <= 'l'; c++) {
            far.append("u").append(c).append(' ');
            last.append("u").append(c).append("#:");
        }
        text = "field v;page " + far + ":7 s end;page " + far + ":8 z end;page " + far + ":9 y end;page "
                + last + "p s z y end;";
        tell(text);
        due("book()", x.book(), y.book());
        for (int p = 0; p < 3; p++) {
            due("mark", x.mark(p, 0, 13, 14), y.mark(p, 0, 13, 14));
        }
        due("learn", x.learn(0), y.learn(0));
        Due.due("many opinions", x.opinion(3, 0, 0) > 70, true);
        for (int p = 0; p < 4; p++) {
            for (int what = 0; what < 5; what++) {
                due("opinion " + p + " " + what, x.opinion(p, 0, what), y.opinion(p, 0, what));
            }
            due("proposed " + p, x.proposed(p, 0, 0, 0), y.proposed(p, 0, 0, 0));
        }
        due("next", x.next(0), y.next(0));
    }

    private void ask(int pages) {
        for (int what = 0; what < 3; what++) {
            due("cover " + what, x.cover(0, what), y.cover(0, what));
        }
        int rules = x.cover(0, 0);
        for (int k = 0; k <= rules; k++) {
            for (int what = 0; what < 6; what++) {
                due("covers " + k + " " + what, x.covers(0, k, what), y.covers(0, k, what));
            }
        }
        due("could 1", x.could(0, 1), y.could(0, 1));
        due("enough", x.enough(0), y.enough(0));
        int p = below(pages);
        int q = below(pages);
        due("without", x.without(p, 0), y.without(p, 0));
        due("contradict " + p + " " + q, x.contradict(0, p, q), y.contradict(0, p, q));
        due("learn", x.learn(0), y.learn(0));
        due("right", x.right(0), y.right(0));
        due("stale", x.stale(0), y.stale(0));
        for (int what = 0; what < 5; what++) {
            due("opinion " + p + " " + what, x.opinion(p, 0, what), y.opinion(p, 0, what));
        }
        due("drift " + p, x.drift(p, 0), y.drift(p, 0));
        due("sturdy " + p, x.sturdy(p, 0), y.sturdy(p, 0));
        due("take " + p, x.take(p, 0), y.take(p, 0));
        due("unmark " + q, x.unmark(q, 0), y.unmark(q, 0));
        due("stale", x.stale(0), y.stale(0));
        due("right", x.right(0), y.right(0));
    }

    private void due(String call, long got, long want) {
        Due.due(got == want ? call : call + " of [" + text + "]", got, want);
    }
}
