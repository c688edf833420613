import java.util.ArrayList;
import java.util.HashMap;
import java.util.HashSet;
import java.util.LinkedHashMap;
import java.util.LinkedHashSet;
import java.util.List;
import java.util.Map;
import java.util.Set;
import java.util.TreeSet;
import java.util.regex.Matcher;
import java.util.regex.Pattern;

/**
 * The document once more, in the plainest form: lists, texts, copies of everything, every RULE
 * tried on every EXAMPLE whenever it is asked for. Tests set it against FieldCutter.
 */
final class Model {
    static final class Learning {
        List<List<Integer>> rules = new ArrayList<>();
        int fewest;
        int most;
        Set<Integer> firsts = new TreeSet<>();
        Set<Integer> lasts = new TreeSet<>();
        List<Integer> pattern = new ArrayList<>();

        @Override
        public String toString() {
            return rules + " " + fewest + " " + most + " " + firsts + " " + lasts + " " + pattern;
        }
    }

    static final class Content {
        List<List<String>> pages = new ArrayList<>();
        Map<List<Integer>, List<List<Integer>>> marks = new HashMap<>();
        Map<Integer, Learning> learnt = new HashMap<>();

        Content copy() {
            Content c = new Content();
            c.pages.addAll(pages);
            c.marks.putAll(marks);
            c.learnt.putAll(learnt);
            return c;
        }

        List<List<Integer>> marksOf(int page, int field) {
            return marks.getOrDefault(List.of(page, field), List.of());
        }

        int parts() {
            int n = 0;
            for (List<List<Integer>> row : marks.values()) {
                n += row.size();
            }
            return n;
        }
    }

    private final StringBuilder tape = new StringBuilder();
    private List<String> names = new ArrayList<>();
    private List<Integer> parents = new ArrayList<>();
    private List<Boolean> manies = new ArrayList<>();
    private Content now = new Content();
    private final List<Content> past = new ArrayList<>();
    private final List<Content> future = new ArrayList<>();
    private final Content[] boxes = new Content[2];
    private int faultKind;
    private int faultPlace = -1;

    // ---- reading ----

    int feed(int a, int b, int c, int d, int e) {
        if (tape.length() + 20 > 900) {
            return -1;
        }
        for (int n : new int[] {a, b, c, d, e}) {
            for (int k = 3; k >= 0; k--) {
                tape.append((char) ((n >>> (8 * k)) % 256));
            }
        }
        return tape.length();
    }

    int end(int n) {
        if (n < 0 || n > tape.length()) {
            return -1;
        }
        tape.setLength(n);
        return n;
    }

    private static final Pattern LEXEME = Pattern.compile("[a-z]+|[0-9]+|[-.:,/#=+;]|[^ \n]", Pattern.DOTALL);
    private List<String> lexemes;
    private List<Integer> places;
    private int cursor;

    private void lex(String text) {
        lexemes = new ArrayList<>();
        places = new ArrayList<>();
        Matcher m = LEXEME.matcher(text);
        while (m.find()) {
            String got = m.group();
            boolean letterBehind = m.end() < text.length() && text.substring(m.end(), m.end() + 1).matches("[a-z]");
            boolean good = got.matches("[a-z]{1,8}|[-.:,/#=+;]") || got.matches("[0-9]{1,4}") && !letterBehind;
            lexemes.add(good ? got : null);
            places.add(m.start());
        }
        lexemes.add("");
        places.add(text.length());
        cursor = 0;
    }

    private static final class Fault extends RuntimeException {
        private static final long serialVersionUID = 1;
        final int kind;
        final int place;

        Fault(int kind, int place) {
            this.kind = kind;
            this.place = place;
        }
    }

    private String peek() {
        String t = lexemes.get(cursor);
        if (t == null) {
            throw new Fault(1, places.get(cursor));
        }
        return t;
    }

    private Fault wrong(int kind) {
        return new Fault(kind, places.get(cursor));
    }

    private void expect(String what) {
        if (!peek().equals(what)) {
            throw wrong(2);
        }
        cursor++;
    }

    private String name() {
        String t = peek();
        if (!t.matches("[a-z]{1,7}") || List.of("field", "page", "of", "many", "end").contains(t)) {
            throw wrong(2);
        }
        return t;
    }

    private List<String> pageLine() {
        expect("page");
        List<String> row = new ArrayList<>();
        while (true) {
            String t = peek();
            if (t.isEmpty() || t.equals(";")) {
                throw wrong(2);
            }
            if (t.equals("end")) {
                if (row.isEmpty()) {
                    throw wrong(2);
                }
                cursor++;
                expect(";");
                return row;
            }
            if (row.size() == 40) {
                throw wrong(2);
            }
            row.add(t);
            cursor++;
        }
    }

    int book() {
        String text = tape.toString();
        tape.setLength(0);
        List<String> n = new ArrayList<>();
        List<Integer> p = new ArrayList<>();
        List<Boolean> m = new ArrayList<>();
        List<List<String>> pages = new ArrayList<>();
        try {
            lex(text);
            while (!peek().isEmpty()) {
                if (peek().equals("page")) {
                    if (pages.size() == 6) {
                        throw wrong(2);
                    }
                    pages.add(pageLine());
                } else {
                    if (n.size() == 4) {
                        throw wrong(2);
                    }
                    fieldLine(n, p, m);
                }
            }
        } catch (Fault f) {
            faultKind = f.kind;
            faultPlace = f.place;
            return -1;
        }
        faultKind = 0;
        faultPlace = -1;
        names = n;
        parents = p;
        manies = m;
        now = new Content();
        now.pages = pages;
        past.clear();
        future.clear();
        boxes[0] = null;
        boxes[1] = null;
        return pages.size();
    }

    private void fieldLine(List<String> n, List<Integer> p, List<Boolean> m) {
        expect("field");
        String name = name();
        if (n.contains(name)) {
            throw wrong(3);
        }
        cursor++;
        int parent = -1;
        if (peek().equals("of")) {
            cursor++;
            parent = n.indexOf(name());
            if (parent < 0 || m.get(parent)) {
                throw wrong(3);
            }
            cursor++;
        }
        boolean many = peek().equals("many");
        if (many) {
            cursor++;
        }
        expect(";");
        n.add(name);
        p.add(parent);
        m.add(many);
    }

    int page() {
        String text = tape.toString();
        tape.setLength(0);
        if (now.pages.size() == 6) {
            return -1;
        }
        List<String> row;
        try {
            lex(text);
            row = pageLine();
            if (!peek().isEmpty()) {
                throw wrong(2);
            }
        } catch (Fault f) {
            faultKind = f.kind;
            faultPlace = f.place;
            return -1;
        }
        faultKind = 0;
        faultPlace = -1;
        act();
        now.pages.add(row);
        return now.pages.size() - 1;
    }

    int fault(int what) {
        return what == 0 ? faultKind : what == 1 ? faultPlace : -1;
    }

    // ---- what there is ----

    private boolean isField(int f) {
        return f >= 0 && f < names.size();
    }

    private boolean isPage(int p) {
        return p >= 0 && p < now.pages.size();
    }

    private static int kind(String token) {
        char c = token.charAt(0);
        return c >= 'a' && c <= 'z' ? 0 : c >= '0' && c <= '9' ? 1 : 2;
    }

    private List<List<String>> countedPages = List.of();
    private List<String> counted = List.of();

    /** All unlike TOKENS by their NUMBERS; found again when there are other PAGES. */
    private List<String> unlike() {
        if (!countedPages.equals(now.pages)) {
            LinkedHashSet<String> all = new LinkedHashSet<>();
            for (List<String> page : now.pages) {
                all.addAll(page);
            }
            counted = new ArrayList<>(all);
            countedPages = List.copyOf(now.pages);
        }
        return counted;
    }

    private List<Integer> examples(int f) {
        List<Integer> all = new ArrayList<>();
        for (int p = 0; p < now.pages.size(); p++) {
            if (!now.marksOf(p, f).isEmpty()) {
                all.add(p);
            }
        }
        return all;
    }

    private static int bits(Iterable<Integer> set) {
        int b = 0;
        for (int x : set) {
            b |= 1 << x;
        }
        return b;
    }

    int field(int f, int what) {
        if (!isField(f)) {
            return -1;
        }
        Learning l = now.learnt.get(f);
        switch (what) {
            case 0: return parents.get(f);
            case 1: return manies.get(f) ? 1 : 0;
            case 2: return bits(examples(f));
            case 3: return l == null ? 0 : l.rules.size();
            case 4: return l == null ? -1 : l.fewest;
            case 5: return l == null ? -1 : l.most;
            case 6: return l == null ? 0 : bits(l.firsts);
            case 7: return l == null ? 0 : bits(l.lasts);
            default: return -1;
        }
    }

    int tokens(int p) {
        return isPage(p) ? now.pages.get(p).size() : -1;
    }

    int token(int p, int at, int what) {
        if (!isPage(p) || at < 0 || at >= now.pages.get(p).size()) {
            return -1;
        }
        String t = now.pages.get(p).get(at);
        return what == 0 ? kind(t) : what == 1 ? unlike().indexOf(t) : what == 2 ? t.length() : -1;
    }

    // ---- ACTS ----

    private void act() {
        past.add(now);
        if (past.size() > 16) {
            past.remove(0);
        }
        future.clear();
        now = now.copy();
    }

    private boolean inParent(int p, int f, List<List<Integer>> parts) {
        int parent = parents.get(f);
        if (parent < 0) {
            return true;
        }
        List<List<Integer>> around = now.marksOf(p, parent);
        if (around.isEmpty()) {
            return false;
        }
        for (List<Integer> part : parts) {
            if (part.get(0) < around.get(0).get(0) || part.get(1) > around.get(0).get(1)) {
                return false;
            }
        }
        return true;
    }

    int mark(int p, int f, int from, int to) {
        if (!isPage(p) || !isField(f) || from < 0 || to <= from || to > now.pages.get(p).size()) {
            return -1;
        }
        List<List<Integer>> row = new ArrayList<>(now.marksOf(p, f));
        if (!row.isEmpty()) {
            if (!manies.get(f) || row.size() == 8 || from < row.get(row.size() - 1).get(1)) {
                return -1;
            }
        }
        if (!inParent(p, f, List.of(List.of(from, to)))) {
            return -1;
        }
        row.add(List.of(from, to));
        act();
        now.marks.put(List.of(p, f), row);
        return row.size();
    }

    int unmark(int p, int f) {
        if (!isPage(p) || !isField(f) || now.marksOf(p, f).isEmpty()) {
            return -1;
        }
        act();
        return wipe(p, f);
    }

    private int wipe(int p, int f) {
        int n = now.marksOf(p, f).size();
        now.marks.remove(List.of(p, f));
        for (int g = 0; g < names.size(); g++) {
            if (parents.get(g) == f) {
                n += wipe(p, g);
            }
        }
        return n;
    }

    int learn(int f) {
        if (!isField(f) || examples(f).isEmpty()) {
            return -1;
        }
        act();
        now.learnt.put(f, learning(f));
        return now.learnt.get(f).rules.size();
    }

    private Learning learning(int f) {
        Learning l = new Learning();
        l.rules = new Cover(f, examples(f)).row;
        List<List<String>> parts = new ArrayList<>();
        for (int p : examples(f)) {
            for (List<Integer> part : now.marksOf(p, f)) {
                parts.add(now.pages.get(p).subList(part.get(0), part.get(1)));
            }
        }
        l.fewest = 1000;
        for (List<String> part : parts) {
            l.fewest = Math.min(l.fewest, part.size());
            l.most = Math.max(l.most, part.size());
            l.firsts.add(kind(part.get(0)));
            l.lasts.add(kind(part.get(part.size() - 1)));
        }
        for (int at = 0; at < l.fewest; at++) {
            Set<Integer> kinds = new TreeSet<>();
            for (List<String> part : parts) {
                kinds.add(kind(part.get(at)));
            }
            l.pattern.add(kinds.size() == 1 ? kinds.iterator().next() : 3);
        }
        return l;
    }

    int take(int p, int f) {
        List<List<Integer>> parts = proposal(p, f);
        if (parts == null || !now.marksOf(p, f).isEmpty() || !inParent(p, f, parts)) {
            return -1;
        }
        act();
        now.marks.put(List.of(p, f), parts);
        now.learnt.put(f, learning(f));
        return now.learnt.get(f).rules.size();
    }

    boolean undo() {
        if (past.isEmpty()) {
            return false;
        }
        future.add(now);
        now = past.remove(past.size() - 1);
        return true;
    }

    boolean redo() {
        if (future.isEmpty()) {
            return false;
        }
        past.add(now);
        now = future.remove(future.size() - 1);
        return true;
    }

    // ---- RULES ----

    private static int get(List<List<Integer>> parts, int i, int what) {
        if (i == -1) {
            return parts.size();
        }
        return i < 0 || i >= parts.size() || what < 0 || what > 1 ? -1 : parts.get(i).get(what);
    }

    int marked(int p, int f, int i, int what) {
        return isPage(p) && isField(f) ? get(now.marksOf(p, f), i, what) : -1;
    }

    private static int cost(List<Integer> rule) {
        int sum = 0;
        for (int item : rule) {
            sum += item == -1 ? 0 : item < 3 ? 3 : 2;
        }
        return sum;
    }

    private static int order(List<Integer> a, List<Integer> b) {
        if (cost(a) != cost(b)) {
            return cost(a) - cost(b);
        }
        for (int i = 0; i < 4; i++) {
            if (!a.get(i).equals(b.get(i))) {
                return a.get(i) - b.get(i);
            }
        }
        return 0;
    }

    private static int detail(List<Integer> rule, int what) {
        return what < 0 || what > 4 ? -2 : what == 4 ? cost(rule) : rule.get(what);
    }

    int rule(int f, int k, int what) {
        Learning l = now.learnt.get(f);
        return l == null || k < 0 || k >= l.rules.size() ? -2 : detail(l.rules.get(k), what);
    }

    private boolean is(String token, int item) {
        return item < 3 ? kind(token) == item : unlike().get(item - 3).equals(token);
    }

    /** The parts that a RULE cuts of the TOKENS begin .. end - 1. */
    private List<List<Integer>> cutBy(List<Integer> rule, List<String> page, int begin, int end, boolean many) {
        List<List<Integer>> parts = new ArrayList<>();
        int at = begin;
        while (parts.size() < (many ? 8 : 1)) {
            if (rule.get(0) != -1) {
                while (at < end && !is(page.get(at), rule.get(0))) {
                    at++;
                }
                if (at >= end) {
                    break;
                }
                at++;
            }
            int nears = rule.get(1) == -1 ? 0 : rule.get(2) == -1 ? 1 : 2;
            while (at + nears <= end && !nearStands(rule, page, at, nears)) {
                at++;
            }
            int from = at + nears;
            if (from >= end) {
                break;
            }
            int to = end;
            if (rule.get(3) != -1) {
                to = from + 1;
                while (to < end && !is(page.get(to), rule.get(3))) {
                    to++;
                }
                if (to >= end) {
                    break;
                }
            }
            parts.add(List.of(from, to));
            at = to;
        }
        return parts;
    }

    private boolean nearStands(List<Integer> rule, List<String> page, int at, int nears) {
        for (int k = 0; k < nears; k++) {
            if (!is(page.get(at + k), rule.get(1 + k))) {
                return false;
            }
        }
        return true;
    }

    private int[] region(int p, int f) {
        int parent = parents.get(f);
        if (parent < 0) {
            return new int[] {0, now.pages.get(p).size()};
        }
        List<Integer> part = now.marksOf(p, parent).get(0);
        return new int[] {part.get(0), part.get(1)};
    }

    private int verdict(List<Integer> rule, int p, int f) {
        int[] r = region(p, f);
        List<List<Integer>> parts = cutBy(rule, now.pages.get(p), r[0], r[1], manies.get(f));
        return parts.isEmpty() ? 0 : parts.equals(now.marksOf(p, f)) ? 1 : 2;
    }

    int tries(int p, int f, int far, int near, int second, int stop) {
        if (!isPage(p) || !isField(f) || now.marksOf(p, f).isEmpty()) {
            return -1;
        }
        for (int item : new int[] {far, near, second, stop}) {
            if (item < -1 || item >= 3 + unlike().size()) {
                return -1;
            }
        }
        return near == -1 && second != -1 ? -1 : verdict(List.of(far, near, second, stop), p, f);
    }

    private int[] forms(String token) {
        return new int[] {kind(token), 3 + unlike().indexOf(token)};
    }

    private void rulesBy(int p, int f, Set<List<Integer>> all) {
        List<String> page = now.pages.get(p);
        int[] r = region(p, f);
        int from = now.marksOf(p, f).get(0).get(0);
        int to = now.marksOf(p, f).get(0).get(1);
        List<Integer> stops = new ArrayList<>(List.of(-1));
        if (to < r[1]) {
            for (int s : forms(page.get(to))) {
                stops.add(s);
            }
        }
        List<List<Integer>> heads = new ArrayList<>();
        heads.add(List.of(from, -1, -1));
        if (from - 1 >= r[0]) {
            for (int n : forms(page.get(from - 1))) {
                heads.add(List.of(from - 1, n, -1));
            }
        }
        if (from - 2 >= r[0]) {
            for (int n : forms(page.get(from - 2))) {
                for (int m : forms(page.get(from - 1))) {
                    heads.add(List.of(from - 2, n, m));
                }
            }
        }
        for (List<Integer> head : heads) {
            Set<Integer> fars = new TreeSet<>(List.of(-1));
            for (int i = r[0]; i < head.get(0); i++) {
                for (int x : forms(page.get(i))) {
                    fars.add(x);
                }
            }
            for (int far : fars) {
                for (int stop : stops) {
                    all.add(List.of(far, head.get(1), head.get(2), stop));
                }
            }
        }
    }

    /** RULES that can be by some EXAMPLES, in their order. */
    private List<List<Integer>> canBe(int f, List<Integer> some) {
        Set<List<Integer>> all = new HashSet<>();
        for (int p : some) {
            rulesBy(p, f, all);
        }
        List<List<Integer>> row = new ArrayList<>(all);
        row.sort(Model::order);
        return row;
    }

    private List<List<Integer>> good(int f, List<Integer> some) {
        List<List<Integer>> row = new ArrayList<>();
        for (List<Integer> rule : canBe(f, some)) {
            boolean fine = true;
            for (int p : some) {
                fine &= verdict(rule, p, f) != 2;
            }
            if (fine) {
                row.add(rule);
            }
        }
        return row;
    }

    int could(int f, int what) {
        if (!isField(f) || what < 0 || what > 1) {
            return -1;
        }
        return what == 0 ? canBe(f, examples(f)).size() : good(f, examples(f)).size();
    }

    private Set<Integer> rightOn(List<Integer> rule, int f, Iterable<Integer> some) {
        Set<Integer> on = new TreeSet<>();
        for (int p : some) {
            if (verdict(rule, p, f) == 1) {
                on.add(p);
            }
        }
        return on;
    }

    /** The COVER by some EXAMPLES alone: every row that can be is looked at, by what is left. */
    private final class Cover {
        final List<List<Integer>> row;
        final Set<Integer> hopeless;
        private final Map<List<Integer>, Set<Integer>> rightly = new LinkedHashMap<>();
        private final Map<Set<Integer>, List<List<Integer>>> best = new HashMap<>();

        Cover(int f, List<Integer> some) {
            hopeless = new TreeSet<>(some);
            for (List<Integer> rule : good(f, some)) {
                rightly.put(rule, rightOn(rule, f, some));
                hopeless.removeAll(rightly.get(rule));
            }
            Set<Integer> open = new TreeSet<>(some);
            open.removeAll(hopeless);
            row = bestFor(open);
        }

        private List<List<Integer>> bestFor(Set<Integer> open) {
            if (open.isEmpty()) {
                return List.of();
            }
            if (!best.containsKey(open)) {
                int first = open.iterator().next();
                List<List<Integer>> found = null;
                for (Map.Entry<List<Integer>, Set<Integer>> e : rightly.entrySet()) {
                    if (e.getValue().contains(first)) {
                        Set<Integer> rest = new TreeSet<>(open);
                        rest.removeAll(e.getValue());
                        List<List<Integer>> row = new ArrayList<>();
                        row.add(e.getKey());
                        row.addAll(bestFor(rest));
                        if (found == null || compare(row, found) < 0) {
                            found = row;
                        }
                    }
                }
                best.put(open, found);
            }
            return best.get(open);
        }

        private int compare(List<List<Integer>> a, List<List<Integer>> b) {
            if (a.size() != b.size()) {
                return a.size() - b.size();
            }
            if (total(a) != total(b)) {
                return total(a) - total(b);
            }
            for (int i = 0; i < a.size(); i++) {
                if (order(a.get(i), b.get(i)) != 0) {
                    return order(a.get(i), b.get(i));
                }
            }
            return 0;
        }
    }

    private static int total(List<List<Integer>> rules) {
        int sum = 0;
        for (List<Integer> rule : rules) {
            sum += cost(rule);
        }
        return sum;
    }

    int cover(int f, int what) {
        if (!isField(f) || what < 0 || what > 2) {
            return -1;
        }
        Cover c = new Cover(f, examples(f));
        return what == 0 ? c.row.size() : what == 1 ? total(c.row) : bits(c.hopeless);
    }

    int covers(int f, int k, int what) {
        if (!isField(f)) {
            return -2;
        }
        Cover c = new Cover(f, examples(f));
        if (k < 0 || k >= c.row.size()) {
            return -2;
        }
        return what == 5 ? bits(rightOn(c.row.get(k), f, examples(f))) : detail(c.row.get(k), what);
    }

    int contradict(int f, int p, int q) {
        if (!isField(f) || p == q || !examples(f).contains(p) || !examples(f).contains(q)) {
            return -1;
        }
        for (List<Integer> rule : canBe(f, List.of(p, q))) {
            int a = verdict(rule, p, f);
            int b = verdict(rule, q, f);
            if (a == 1 && b == 1 || a == 1 && b == 0 || a == 0 && b == 1) {
                return 0;
            }
        }
        return 1;
    }

    int stale(int f) {
        if (!isField(f) || now.learnt.get(f) == null || examples(f).isEmpty()) {
            return -1;
        }
        return now.learnt.get(f).toString().equals(learning(f).toString()) ? 0 : 1;
    }

    // ---- what is CUT ----

    private int byRule;

    /** The REGION as for CUT, null if there is none. */
    private int[] cutRegion(List<String> page, int f) {
        int parent = parents.get(f);
        if (parent < 0) {
            return new int[] {0, page.size()};
        }
        List<List<Integer>> parts = cutParts(page, parent);
        return parts.isEmpty() ? null : new int[] {parts.get(0).get(0), parts.get(0).get(1)};
    }

    private List<List<Integer>> cutParts(List<String> page, int f) {
        int[] r = cutRegion(page, f);
        byRule = -1;
        Learning l = now.learnt.get(f);
        if (r == null || l == null) {
            return List.of();
        }
        for (int k = 0; k < l.rules.size(); k++) {
            List<List<Integer>> parts = cutBy(l.rules.get(k), page, r[0], r[1], manies.get(f));
            if (!parts.isEmpty()) {
                byRule = k;
                return parts;
            }
        }
        return List.of();
    }

    private boolean isLearnt(int p, int f) {
        return isPage(p) && isField(f) && now.learnt.get(f) != null;
    }

    int cut(int p, int f, int i, int what) {
        return isLearnt(p, f) ? get(cutParts(now.pages.get(p), f), i, what) : -1;
    }

    int by(int p, int f) {
        if (!isLearnt(p, f)) {
            return -1;
        }
        cutParts(now.pages.get(p), f);
        return byRule;
    }

    private String spell(List<String> page, int f) {
        List<String> parts = new ArrayList<>();
        for (List<Integer> part : cutParts(page, f)) {
            parts.add(String.join(" ", page.subList(part.get(0), part.get(1))));
        }
        return parts.isEmpty() ? null : String.join("/", parts);
    }

    int letter(int p, int f, int i) {
        String s = isLearnt(p, f) ? spell(now.pages.get(p), f) : null;
        if (s == null) {
            return -1;
        }
        return i == -1 ? s.length() : i < 0 || i >= s.length() ? -1 : s.charAt(i);
    }

    int pattern(int f, int place) {
        Learning l = now.learnt.get(f);
        return l == null || place < 0 || place >= l.pattern.size() ? -1 : l.pattern.get(place);
    }

    int alike(int p, int f) {
        String s = isLearnt(p, f) ? spell(now.pages.get(p), f) : null;
        if (s == null) {
            return -1;
        }
        int q = 0;
        while (!s.equals(spell(now.pages.get(q), f))) {
            q++;
        }
        return q;
    }

    private int misfit(List<String> page, List<List<Integer>> parts, Learning l) {
        for (List<Integer> part : parts) {
            int size = part.get(1) - part.get(0);
            if (size < l.fewest || size > l.most) {
                return 2;
            }
        }
        for (List<Integer> part : parts) {
            if (!l.firsts.contains(kind(page.get(part.get(0))))) {
                return 3;
            }
        }
        for (List<Integer> part : parts) {
            if (!l.lasts.contains(kind(page.get(part.get(1) - 1)))) {
                return 4;
            }
        }
        for (List<Integer> part : parts) {
            for (int at = 0; at < l.fewest; at++) {
                if (l.pattern.get(at) != 3 && l.pattern.get(at) != kind(page.get(part.get(0) + at))) {
                    return 5;
                }
            }
        }
        return 0;
    }

    int drift(int p, int f) {
        if (!isLearnt(p, f)) {
            return -1;
        }
        List<List<Integer>> parts = cutParts(now.pages.get(p), f);
        return parts.isEmpty() ? 1 : misfit(now.pages.get(p), parts, now.learnt.get(f));
    }

    int strange(int what) {
        for (int p = 0; p < now.pages.size(); p++) {
            for (int f = 0; f < names.size(); f++) {
                if (drift(p, f) > 0) {
                    return what == 0 ? p : what == 1 ? f : -1;
                }
            }
        }
        return -1;
    }

    int sturdy(int p, int f) {
        String s = isLearnt(p, f) ? spell(now.pages.get(p), f) : null;
        if (s == null) {
            return -1;
        }
        int n = 0;
        for (int t = 0; t < now.pages.get(p).size(); t++) {
            List<String> less = new ArrayList<>(now.pages.get(p));
            less.remove(t);
            if (s.equals(spell(less, f))) {
                n++;
            }
        }
        return n;
    }

    private boolean rightlyBy(List<List<Integer>> rules, int p, int f) {
        for (List<Integer> rule : rules) {
            int v = verdict(rule, p, f);
            if (v != 0) {
                return v == 1;
            }
        }
        return false;
    }

    int right(int f) {
        if (!isField(f) || now.learnt.get(f) == null) {
            return -1;
        }
        int n = 0;
        for (int p : examples(f)) {
            n += rightlyBy(now.learnt.get(f).rules, p, f) ? 1 : 0;
        }
        return n;
    }

    int enough(int f) {
        if (!isField(f) || examples(f).isEmpty()) {
            return -1;
        }
        for (int size = 1; size <= 6; size++) {
            for (int set = 0; set < 64; set++) {
                List<Integer> some = new ArrayList<>();
                for (int p = 0; p < 6; p++) {
                    if ((set >> p) % 2 == 1) {
                        some.add(p);
                    }
                }
                if (some.size() == size && examples(f).containsAll(some)) {
                    List<List<Integer>> row = new Cover(f, some).row;
                    boolean all = true;
                    for (int p : examples(f)) {
                        all &= rightlyBy(row, p, f);
                    }
                    if (all) {
                        return set;
                    }
                }
            }
        }
        return 0;
    }

    // ---- VOTES ----

    private Map<List<List<Integer>>, Integer> votes(int p, int f) {
        Map<List<List<Integer>>, Integer> all = new LinkedHashMap<>();
        int[] r = cutRegion(now.pages.get(p), f);
        for (List<Integer> rule : good(f, examples(f))) {
            if (!rightOn(rule, f, examples(f)).isEmpty()) {
                List<List<Integer>> parts = List.of();
                if (r != null) {
                    parts = cutBy(rule, now.pages.get(p), r[0], r[1], manies.get(f));
                }
                all.merge(parts, 1, Integer::sum);
            }
        }
        return all;
    }

    private List<List<Integer>> proposal(int p, int f) {
        if (!isLearnt(p, f)) {
            return null;
        }
        List<List<Integer>> best = null;
        int most = 0;
        for (Map.Entry<List<List<Integer>>, Integer> e : votes(p, f).entrySet()) {
            boolean fits = !e.getKey().isEmpty() && misfit(now.pages.get(p), e.getKey(), now.learnt.get(f)) == 0;
            if (fits && e.getValue() > most) {
                most = e.getValue();
                best = e.getKey();
            }
        }
        return best;
    }

    int proposed(int p, int f, int i, int what) {
        List<List<Integer>> parts = proposal(p, f);
        return parts == null ? -1 : get(parts, i, what);
    }

    int opinion(int p, int f, int what) {
        if (!isPage(p) || !isField(f) || what < 0 || what > 4) {
            return -1;
        }
        Map<List<List<Integer>>, Integer> all = votes(p, f);
        if (what == 0) {
            return all.size();
        }
        List<List<Integer>> best = null;
        for (Map.Entry<List<List<Integer>>, Integer> e : all.entrySet()) {
            if (best == null || e.getValue() > all.get(best)) {
                best = e.getKey();
            }
        }
        if (best == null) {
            return -1;
        }
        return what == 1 ? all.get(best) : what == 2 ? best.size() : best.isEmpty() ? -1 : best.get(0).get(what - 3);
    }

    int next(int f) {
        if (!isField(f)) {
            return -1;
        }
        int best = -1;
        for (int p = 0; p < now.pages.size(); p++) {
            if (now.marksOf(p, f).isEmpty() && (best == -1 || votes(p, f).size() > votes(best, f).size())) {
                best = p;
            }
        }
        return best;
    }

    int without(int p, int f) {
        if (!isField(f) || !examples(f).contains(p)) {
            return -1;
        }
        List<Integer> rest = new ArrayList<>(examples(f));
        rest.remove(Integer.valueOf(p));
        return new Cover(f, rest).hopeless.size();
    }

    // ---- images ----

    int image(int box) {
        if (box < 0 || box > 1) {
            return -1;
        }
        boxes[box] = now.copy();
        return now.parts();
    }

    int back(int box) {
        if (box < 0 || box > 1 || boxes[box] == null) {
            return -1;
        }
        now = boxes[box].copy();
        past.clear();
        future.clear();
        return now.parts();
    }

    int about(int what) {
        switch (what) {
            case 0: return names.size();
            case 1: return now.pages.size();
            case 2: return unlike().size();
            case 3: return now.parts();
            case 4: return bits(now.learnt.keySet());
            case 5: return past.size();
            case 6: return future.size();
            case 7: return tape.length();
            default: return -1;
        }
    }
}
