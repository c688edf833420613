import java.util.ArrayList;
import java.util.List;
import java.util.Random;

/** Runs of calls, drawn from fixed seeds, on FieldCutter and on the Model side by side. */
public final class ModelTest {
    private final FieldCutter x = new FieldCutter();
    private final Model y = new Model();
    private final Random dice;
    private final StringBuilder story = new StringBuilder();
    private int calls;
    private boolean wrong;

    private ModelTest(long seed) {
        dice = new Random(seed);
    }

    public static void main(String[] args) {
        int runs = args.length > 0 ? Integer.parseInt(args[0]) : 1500;
        int from = args.length > 1 ? Integer.parseInt(args[1]) : 0;
        int bad = 0;
        long calls = 0;
        for (int run = from; run < from + runs && bad < 5; run++) {
            ModelTest test = new ModelTest(run * 7919L + 17);
            test.play(run % 5 == 4);
            calls += test.calls;
            if (test.wrong) {
                bad++;
                System.out.println("seed of run " + run + ":\n" + test.story);
            }
        }
        System.out.println("ModelTest: " + calls + " calls, " + bad + " runs went wrong");
        if (bad != 0) {
            System.exit(1);
        }
    }

    private int below(int n) {
        return dice.nextInt(n);
    }

    /** Mostly 0 .. n - 1, now and then outside. */
    private int near(int n) {
        return below(12) == 0 ? below(n + 4) - 2 : below(Math.max(1, n));
    }

    /** Mostly a FIELD that is LEARNT, if there is one. */
    private int someField() {
        int f = near(x.about(0));
        for (int k = 0; k < 3 && (x.about(4) >> Math.max(0, f) & 1) == 0; k++) {
            f = near(x.about(0));
        }
        return f;
    }

    /** Mostly an EXAMPLE of a FIELD, if it has one. */
    private int someExample(int f) {
        int p = near(x.about(1));
        for (int k = 0; k < 4 && (x.field(f, 2) >> Math.max(0, p) & 1) == 0; k++) {
            p = near(x.about(1));
        }
        return p;
    }

    private void same(String call, long got, long want) {
        calls++;
        if (story.length() < 60000) {
            story.append(call).append(" = ").append(got).append('\n');
        }
        if (got != want && !wrong) {
            wrong = true;
            story.append("   but due is ").append(want).append('\n');
        }
    }

    private static int b(boolean v) {
        return v ? 1 : 0;
    }

    private String text(boolean faulty) {
        StringBuilder s = new StringBuilder();
        int fields = 1 + below(4);
        newTemplate();
        slots.clear();
        String[] names = {"a", "price", "rowrow", "abcdefg"};
        for (int f = 0; f < fields; f++) {
            s.append("field ").append(names[f]);
            if (f > 0 && below(2) == 0) {
                s.append(" of ").append(names[below(f)]);
            }
            s.append(below(4) == 0 ? " many;" : ";");
        }
        int pages = 1 + below(6);
        for (int p = 0; p < pages; p++) {
            s.append(pageText());
        }
        if (!faulty) {
            // A parent told with many is a fault: such books are mended, so that most are read.
            return mend(s.toString());
        }
        return spoil(s);
    }

    private String mend(String text) {
        String t = text;
        for (String name : new String[] {"a", "price", "rowrow"}) {
            if (t.contains(" of " + name + ";") || t.contains(" of " + name + " ")) {
                t = t.replaceAll("field " + name + "( of [a-z]+)? many;", "field " + name + "$1;");
            }
        }
        return t;
    }

    private String spoil(StringBuilder s) {
        String[] bits = {" ", "x", "7", ";", "%", " end ", " of ", " many ", "field ", "page ", "abcdefgh ", "12345", "qwertyuio", "3z", "\n", "A"};
        int times = 1 + below(2);
        for (int k = 0; k < times; k++) {
            int at = below(s.length() + 1);
            if (below(3) == 0 && at < s.length()) {
                s.delete(at, Math.min(s.length(), at + 1 + below(4)));
            } else {
                s.insert(at, bits[below(bits.length)]);
            }
        }
        return s.toString();
    }

    private int longest = 9;
    private int[] template = new int[0];
    /** Of each PAGE told where its slots lie: only a hint for marks that rules can be learnt from. */
    private final List<List<int[]>> slots = new ArrayList<>();

    private void newTemplate() {
        template = new int[below(3) == 0 ? 0 : 3 + below(5)];
        for (int i = 0; i < template.length; i++) {
            template[i] = below(9);
        }
    }

    /** A page like the others of its template: landmarks, and slots of words, numbers or both. */
    private String alikePage(List<int[]> spans) {
        String[] marks = {"name", "cost", ":", "#", "page"};
        String[] fill = {"apple", "pear", "12", "7", "=", "305"};
        List<String> row = new ArrayList<>();
        for (int t : template) {
            if (t < 5) {
                row.add(marks[t]);
            } else {
                int size = below(5) == 0 ? 2 + below(2) : 1;
                spans.add(new int[] {row.size(), row.size() + size});
                for (int k = 0; k < size; k++) {
                    int odd = below(8) == 0 ? below(6) : -1;
                    row.add(fill[odd >= 0 ? odd : t == 5 ? below(2) : t == 6 ? 2 + below(2) : t == 7 ? below(4) : 2]);
                }
            }
            if (below(12) == 0) {
                row.add(marks[below(5)]);
            }
        }
        if (row.isEmpty()) {
            row.add("x");
        }
        return "page " + String.join(" ", row) + " end;";
    }

    private String pageText() {
        List<int[]> spans = new ArrayList<>();
        slots.add(spans);
        if (template.length > 0) {
            return alikePage(spans);
        }
        String[] words = {"x", "name", "12", "7", ":", ",", "-", "of", "page", "3", "apple", "#"};
        int kinds = 3 + below(words.length - 3);
        int size = 1 + below(longest);
        StringBuilder s = new StringBuilder("page ");
        for (int i = 0; i < size; i++) {
            s.append(words[below(kinds)]).append(' ');
        }
        return s.append("end;").toString();
    }

    private void tell(String text) {
        for (int at = 0; at < text.length(); at += 20) {
            int[] n = new int[5];
            for (int k = 0; k < 20; k++) {
                int c = at + k < text.length() ? text.charAt(at + k) : 0;
                n[k / 4] |= c << (24 - k % 4 * 8);
            }
            same("feed", x.feed(n[0], n[1], n[2], n[3], n[4]), y.feed(n[0], n[1], n[2], n[3], n[4]));
        }
        same("end", x.end(text.length()), y.end(text.length()));
        story.append("  [").append(text).append("]\n");
    }

    private void newBook(boolean faulty) {
        if (x.about(7) > 0) {
            same("end(0)", x.end(0), y.end(0));
        }
        tell(text(faulty));
        same("book()", x.book(), y.book());
        for (int w = -1; w < 3; w++) {
            same("fault(" + w + ")", x.fault(w), y.fault(w));
        }
        compareAll();
    }

    private void play(boolean faulty) {
        longest = 3 + below(14);
        newBook(faulty);
        int steps = 30 + below(80);
        for (int k = 0; k < steps && !wrong && calls < 3000; k++) {
            int kind = below(40);
            if (kind == 0) {
                newBook(below(3) == 0);
            } else if (kind < 3) {
                morePage();
            } else if (kind < 20) {
                act();
            } else {
                for (int q = 0; q < 4; q++) {
                    ask(below(30));
                }
            }
        }
        compareAll();
    }

    private void morePage() {
        String t = below(3) == 0 ? spoil(new StringBuilder(pageText())) : pageText();
        same("end(0)", x.end(0), y.end(0));
        tell(t);
        same("page()", x.page(), y.page());
        for (int w = 0; w < 2; w++) {
            same("fault(" + w + ")", x.fault(w), y.fault(w));
        }
    }

    private void act() {
        int p = near(x.about(1));
        int f = near(x.about(0));
        switch (below(11)) {
            case 0:
                same("undo()", b(x.undo()), b(y.undo()));
                break;
            case 1:
                same("redo()", b(x.redo()), b(y.redo()));
                break;
            case 2:
                same("unmark(" + p + "," + f + ")", x.unmark(p, f), y.unmark(p, f));
                break;
            case 3:
            case 4:
                same("learn(" + f + ")", x.learn(f), y.learn(f));
                break;
            case 5:
                f = someField();
                same("take(" + p + "," + f + ")", x.take(p, f), y.take(p, f));
                break;
            case 6:
                if (below(3) == 0) {
                    int box = near(2);
                    same("image(" + box + ")", x.image(box), y.image(box));
                    break;
                }
                if (below(4) == 0) {
                    int box = near(2);
                    same("back(" + box + ")", x.back(box), y.back(box));
                    break;
                }
                markSome(p, f);
                break;
            default:
                markSome(p, f);
                break;
        }
    }

    private void markSome(int p, int f) {
        int from = near(Math.max(1, x.tokens(p)));
        int to = from + 1 + below(3);
        int parent = x.field(f, 0);
        if (parent >= 0 && x.marked(p, parent, -1, 0) == 1 && below(4) > 0) {
            int a = x.marked(p, parent, 0, 0);
            int z = x.marked(p, parent, 0, 1);
            from = a + below(z - a);
            to = from + 1 + below(z - from);
        } else if (p >= 0 && p < slots.size() && !slots.get(p).isEmpty() && below(8) > 0) {
            int[] span = slots.get(p).get(Math.max(0, f) % slots.get(p).size());
            from = span[0];
            to = span[1];
        } else if (below(3) == 0) {
            to = from + 1 + below(9);
        }
        int tries = 1;
        if (x.field(f, 1) == 1) {
            tries = 1 + below(9);
        }
        for (int k = 0; k < tries; k++) {
            same("mark(" + p + "," + f + "," + from + "," + to + ")", x.mark(p, f, from, to), y.mark(p, f, from, to));
            from = to + below(2);
            to = from + 1 + below(2);
        }
    }

    private void compareAll() {
        for (int w = -1; w < 9; w++) {
            same("about(" + w + ")", x.about(w), y.about(w));
        }
        int pages = x.about(1);
        for (int p = -1; p <= pages; p++) {
            same("tokens(" + p + ")", x.tokens(p), y.tokens(p));
            for (int t = -1; t <= x.tokens(p); t++) {
                int w = below(5) - 1;
                same("token(" + p + "," + t + "," + w + ")", x.token(p, t, w), y.token(p, t, w));
            }
        }
        for (int f = -1; f <= x.about(0); f++) {
            for (int w = -1; w < 9; w++) {
                same("field(" + f + "," + w + ")", x.field(f, w), y.field(f, w));
            }
        }
        for (int q = 0; q < 30; q++) {
            ask(q);
        }
    }

    private void ask(int which) {
        int f = someField();
        int p = which < 10 || which > 28 ? someExample(f) : near(x.about(1));
        int i = below(6) - 1;
        int w = near(3);
        String at = "(" + p + "," + f + "," + i + "," + w + ")";
        switch (which) {
            case 0: same("marked" + at, x.marked(p, f, i, w), y.marked(p, f, i, w)); break;
            case 1:
                int k = near(2);
                int d = near(6);
                same("rule(" + f + "," + k + "," + d + ")", x.rule(f, k, d), y.rule(f, k, d));
                break;
            case 2:
            case 3:
                int items = 3 + x.about(2);
                int far = below(2) == 0 ? -1 : near(items);
                int one = below(3) == 0 ? -1 : near(items);
                int two = below(3) != 0 ? -1 : near(items);
                int stop = below(2) == 0 ? -1 : near(items);
                same("tries(" + p + "," + f + "," + far + "," + one + "," + two + "," + stop + ")",
                        x.tries(p, f, far, one, two, stop), y.tries(p, f, far, one, two, stop));
                break;
            case 4: same("could(" + f + "," + w + ")", x.could(f, w), y.could(f, w)); break;
            case 5: same("cover(" + f + "," + w + ")", x.cover(f, w), y.cover(f, w)); break;
            case 6:
            case 7:
                int c = near(3);
                int e = near(6);
                same("covers(" + f + "," + c + "," + e + ")", x.covers(f, c, e), y.covers(f, c, e));
                break;
            case 8:
            case 9:
                int o = someExample(f);
                same("contradict(" + f + "," + p + "," + o + ")", x.contradict(f, p, o), y.contradict(f, p, o));
                break;
            case 10: same("stale(" + f + ")", x.stale(f), y.stale(f)); break;
            case 11:
            case 12: same("cut" + at, x.cut(p, f, i, w), y.cut(p, f, i, w)); break;
            case 13: same("by" + at, x.by(p, f), y.by(p, f)); break;
            case 14:
            case 15: same("letter" + at, x.letter(p, f, i), y.letter(p, f, i)); break;
            case 16: same("pattern" + at, x.pattern(f, i), y.pattern(f, i)); break;
            case 17:
            case 18: same("proposed" + at, x.proposed(p, f, i, w), y.proposed(p, f, i, w)); break;
            case 19: same("alike" + at, x.alike(p, f), y.alike(p, f)); break;
            case 20:
            case 21: same("drift" + at, x.drift(p, f), y.drift(p, f)); break;
            case 22: same("strange(" + w + ")", x.strange(w), y.strange(w)); break;
            case 23: same("sturdy" + at, x.sturdy(p, f), y.sturdy(p, f)); break;
            case 24: same("right(" + f + ")", x.right(f), y.right(f)); break;
            case 25: same("enough(" + f + ")", x.enough(f), y.enough(f)); break;
            case 26:
            case 27:
                int v = near(5);
                same("opinion(" + p + "," + f + "," + v + ")", x.opinion(p, f, v), y.opinion(p, f, v));
                break;
            case 28: same("next(" + f + ")", x.next(f), y.next(f)); break;
            default: same("without" + at, x.without(p, f), y.without(p, f)); break;
        }
    }
}
