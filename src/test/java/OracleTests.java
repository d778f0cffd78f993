import java.lang.reflect.InvocationTargetException;
import java.lang.reflect.Method;
import java.lang.reflect.Modifier;
import java.util.ArrayDeque;
import java.util.ArrayList;
import java.util.Arrays;
import java.util.Collections;
import java.util.HashMap;
import java.util.LinkedHashMap;
import java.util.List;
import java.util.Map;
import java.util.Random;
import java.util.TreeMap;

/**
 * Runs of made-up calls on GrammarTools and on a plain model of the document, side by side.
 * The model is written for plainness alone: trees are objects, every search tries everything.
 * The runs are the same ones each time. With arguments: the first run and how many.
 */
public final class OracleTests {
    static final int NONE = -1, UNKNOWN = -100001, OUTSIDE = -100002, NOT = -100003, FULL = -100004, SPENT = -100005, LARGE = -100006;

    public static void main(String[] args) {
        int first = args.length > 0 ? Integer.parseInt(args[0]) : 0;
        int many = args.length > 1 ? Integer.parseInt(args[1]) : 800;
        int wrong = 0;
        for (int run = first; run < first + many && wrong < 5; run++) {
            wrong += new Run(run).go() ? 0 : 1;
        }
        if (args.length > 2) {
            Run.printAnswers();
        }
        System.out.println(wrong == 0 ? many + " runs are as the model's" : wrong + " runs are not as the model's");
        if (wrong != 0) {
            System.exit(1);
        }
    }

    // ------------------------------------------------------------------ the model

    /** A piece: code from 1000 on is a node of a form, else a leaf (from 200 on a hole). */
    record T(int code, List<T> in) {
        boolean isNode() {
            return code >= 1000;
        }

        int form() {
            return code - 1000;
        }

        int nodes() {
            int n = isNode() ? 1 : 0;
            for (T t : in) {
                n += t.nodes();
            }
            return n;
        }

        int pieces() {
            int n = 1;
            for (T t : in) {
                n += t.pieces();
            }
            return n;
        }
    }

    static T leafOf(int code) {
        return new T(code, List.of());
    }

    static final class Form {
        int sort;
        int[] items;
        int[] gaps;
        int[] slotItems;
        int[] naming;
        int act;
        boolean scope;
        List<int[]> rules = new ArrayList<>();
    }

    static final class Piece {
        T t;
        Piece up;
        int slot;
        int number;
        int order;
        int last;
    }

    static final class Tree {
        int v;
        T top;
        int[] pins = new int[41];
        List<Piece> nodes = new ArrayList<>();
        List<Piece> leaves = new ArrayList<>();
        List<Piece> all = new ArrayList<>();

        Tree(int v, T top) {
            this.v = v;
            this.top = top;
            list(top, null, 0);
        }

        Piece list(T t, Piece up, int slot) {
            Piece p = new Piece();
            p.t = t;
            p.up = up;
            p.slot = slot;
            p.order = all.size();
            all.add(p);
            List<Piece> to = t.isNode() ? nodes : leaves;
            p.number = to.size();
            to.add(p);
            for (int i = 0; i < t.in().size(); i++) {
                list(t.in().get(i), p, i);
            }
            p.last = all.size() - 1;
            return p;
        }

        Piece childOf(Piece p, int i) {
            for (Piece q : all) {
                if (q.up == p && q.slot == i) {
                    return q;
                }
            }
            throw new IllegalStateException();
        }
    }

    static final class Turn {
        int v;
        T before;
        T after;
        boolean law;
    }

    static final class Model {
        int[][] lengths = new int[2][12];
        List<List<Form>> tellings = List.of(new ArrayList<>(), new ArrayList<>());
        List<List<Integer>> texts = new ArrayList<>();
        Tree[] trees = new Tree[12];
        int[][] worlds = new int[4][16];
        int latest;
        List<T[]> pairs = new ArrayList<>();
        int pairV;
        Turn[] turns = new Turn[6];
        int[][] maps = new int[14][];
        int[] mapTo = new int[14];
        int[] sheetForm = {-1, -1, -1, -1};
        int[][] sheets = new int[4][];

        Model() {
            for (int[] l : lengths) {
                Arrays.fill(l, 3);
            }
            for (int t = 0; t < 8; t++) {
                texts.add(new ArrayList<>());
            }
        }

        boolean v(int v) {
            return v == 0 || v == 1;
        }

        boolean f(int v, int f) {
            return v(v) && f >= 0 && f < tellings.get(v).size();
        }

        boolean tree(int t) {
            return t >= 0 && t < 12 && trees[t] != null;
        }

        boolean to(int t) {
            return t >= 0 && t < 12;
        }

        boolean text(int t) {
            return t >= 0 && t < 8;
        }

        static boolean isCode(int c) {
            return c >= 0 && c <= 11 || c >= 20 && c <= 35 || c >= 40 && c <= 139;
        }

        static boolean fit(int item, int c) {
            return item == c || item == 20 && c >= 20 && c <= 35 || item == 40 && c >= 40 && c <= 139;
        }

        // tellings

        int length(int v, int w, int n) {
            if (!v(v)) {
                return UNKNOWN;
            }
            if (w < 0 || w > 11 || n < 1 || n > 9) {
                return OUTSIDE;
            }
            int was = lengths[v][w];
            lengths[v][w] = n;
            return was;
        }

        int form(int v, int sort, int a, int b, int c, int d, int e) {
            if (!v(v)) {
                return UNKNOWN;
            }
            List<Integer> items = new ArrayList<>();
            for (int code : new int[] {a, b, c, d, e}) {
                if (code == NONE) {
                    break;
                }
                items.add(code);
            }
            if (sort < 0 || sort > 5 || items.isEmpty()) {
                return OUTSIDE;
            }
            for (int i : items) {
                if (!(i >= 0 && i <= 11 || i == 20 || i == 40 || i >= 60 && i <= 65)) {
                    return OUTSIDE;
                }
            }
            if (items.size() == 1 && items.get(0) >= 60 && items.get(0) - 60 <= sort) {
                return OUTSIDE;
            }
            if (tellings.get(v).size() == 14) {
                return FULL;
            }
            Form f = new Form();
            f.sort = sort;
            f.items = items.stream().mapToInt(x -> x).toArray();
            f.slotItems = items.stream().mapToInt(x -> x).filter(x -> x >= 20).toArray();
            f.gaps = new int[f.items.length];
            Arrays.fill(f.gaps, 1);
            f.naming = new int[f.slotItems.length];
            tellings.get(v).add(f);
            return tellings.get(v).size() - 1;
        }

        int clear(int v) {
            if (!v(v)) {
                return UNKNOWN;
            }
            int n = tellings.get(v).size();
            tellings.get(v).clear();
            for (int t = 0; t < 12; t++) {
                if (trees[t] != null && trees[t].v == v) {
                    trees[t] = null;
                }
            }
            if (!pairs.isEmpty() && pairV == v) {
                pairs.clear();
            }
            for (int t = 0; t < 6; t++) {
                if (turns[t] != null && turns[t].v == v) {
                    turns[t] = null;
                }
            }
            Arrays.fill(maps, null);
            return n;
        }

        int forms(int v, int f, int what) {
            if (!f(v, f)) {
                return UNKNOWN;
            }
            if (what < 0 || what > 10) {
                return OUTSIDE;
            }
            Form x = tellings.get(v).get(f);
            int[] answers = {x.sort, x.items.length, x.slotItems.length, -1, -1, -1, -1, -1, x.act, x.scope ? 1 : 0, x.rules.size()};
            for (int k = 0; k < x.items.length; k++) {
                answers[3 + k] = x.items[k];
            }
            return answers[what];
        }

        int gap(int v, int f, int i, int how) {
            if (!f(v, f)) {
                return UNKNOWN;
            }
            Form x = tellings.get(v).get(f);
            if (i < 0 || i >= x.items.length - 1 || how < 0 || how > 2) {
                return OUTSIDE;
            }
            int was = x.gaps[i];
            x.gaps[i] = how;
            return was;
        }

        int name(int v, int f, int i, int how) {
            if (!f(v, f)) {
                return UNKNOWN;
            }
            Form x = tellings.get(v).get(f);
            if (i < 0 || i >= x.slotItems.length || how < 0 || how > 2) {
                return OUTSIDE;
            }
            if (x.slotItems[i] != 20) {
                return NOT;
            }
            int was = x.naming[i];
            x.naming[i] = how;
            return was;
        }

        int scope(int v, int f, boolean is) {
            if (!f(v, f)) {
                return UNKNOWN;
            }
            Form x = tellings.get(v).get(f);
            int was = x.scope ? 1 : 0;
            x.scope = is;
            return was;
        }

        int rule(int v, int f, int i, int what) {
            if (!f(v, f)) {
                return UNKNOWN;
            }
            Form x = tellings.get(v).get(f);
            int slots = x.slotItems.length;
            if (i < -1 || i >= slots) {
                return OUTSIDE;
            }
            boolean kind = what >= 0 && what <= 5;
            boolean alike = what >= 10 && what - 10 < slots && what - 10 != i;
            if (!kind && !alike) {
                return OUTSIDE;
            }
            if (x.rules.size() == 6) {
                return FULL;
            }
            x.rules.add(new int[] {i, what});
            return x.rules.size();
        }

        int unrule(int v, int f) {
            if (!f(v, f)) {
                return UNKNOWN;
            }
            int n = tellings.get(v).get(f).rules.size();
            tellings.get(v).get(f).rules.clear();
            return n;
        }

        int mean(int v, int f, int act) {
            if (!f(v, f)) {
                return UNKNOWN;
            }
            if (act < 0 || act > 7) {
                return OUTSIDE;
            }
            int was = tellings.get(v).get(f).act;
            tellings.get(v).get(f).act = act;
            return was;
        }

        int count(int what) {
            int n = 0;
            switch (what) {
                case 0:
                case 1:
                    return tellings.get(what).size();
                case 2:
                    for (Tree t : trees) {
                        n += t != null ? 1 : 0;
                    }
                    return n;
                case 3:
                    return pairs.size();
                case 4:
                    for (Turn t : turns) {
                        n += t != null ? 1 : 0;
                    }
                    return n;
                case 5:
                    for (Turn t : turns) {
                        n += t != null && t.law ? 1 : 0;
                    }
                    return n;
                case 6:
                    for (int[] m : maps) {
                        n += m != null ? 1 : 0;
                    }
                    return n;
                case 7:
                    for (int[] s : sheets) {
                        n += s != null ? 1 : 0;
                    }
                    return n;
                default:
                    return OUTSIDE;
            }
        }

        // texts

        int cell(int t, int code) {
            if (!text(t)) {
                return UNKNOWN;
            }
            if (!isCode(code)) {
                return OUTSIDE;
            }
            if (texts.get(t).size() == 16) {
                return FULL;
            }
            texts.get(t).add(code);
            return texts.get(t).size();
        }

        int put(int t, int i, int code) {
            if (!text(t)) {
                return UNKNOWN;
            }
            if (i < 0 || i >= texts.get(t).size() || !isCode(code)) {
                return OUTSIDE;
            }
            return texts.get(t).set(i, code);
        }

        int wipe(int t) {
            if (!text(t)) {
                return UNKNOWN;
            }
            int n = texts.get(t).size();
            texts.get(t).clear();
            return n;
        }

        int at(int t, int i) {
            if (!text(t)) {
                return UNKNOWN;
            }
            return i >= 0 && i < texts.get(t).size() ? texts.get(t).get(i) : NONE;
        }

        // the reader

        /** Readings as a sort, kept by sort and part, capped far above what is told. */
        long ways(int v, int sort, List<Integer> row, int from, int to, Map<Integer, Long> kept) {
            int key = (sort * 32 + from) * 32 + to;
            if (kept.containsKey(key)) {
                return kept.get(key);
            }
            long sum = 0;
            for (Form f : tellings.get(v)) {
                if (f.sort == sort) {
                    sum += waysOf(v, f, 0, row, from, to, kept);
                }
            }
            sum = Math.min(sum, 1000000);
            kept.put(key, sum);
            return sum;
        }

        long waysOf(int v, Form f, int k, List<Integer> row, int from, int to, Map<Integer, Long> kept) {
            int left = f.items.length - k;
            if (left == 0) {
                return from == to ? 1 : 0;
            }
            long sum = 0;
            for (int mid = from + 1; mid <= to - (left - 1); mid++) {
                if (left == 1 && mid != to) {
                    continue;
                }
                long here = f.items[k] >= 60 ? ways(v, f.items[k] - 60, row, from, mid, kept)
                    : mid == from + 1 && fit(f.items[k], row.get(from)) ? 1 : 0;
                if (here > 0) {
                    sum += here * waysOf(v, f, k + 1, row, mid, to, kept);
                }
            }
            return Math.min(sum, 1000000);
        }

        int readings(int v, int t) {
            if (!v(v) || !text(t)) {
                return UNKNOWN;
            }
            return (int) Math.min(1000, ways(v, 0, texts.get(t), 0, texts.get(t).size(), new HashMap<>()));
        }

        T firstReading(int v, int sort, List<Integer> row, int from, int to, Map<Integer, Long> kept) {
            for (int n = 0; n < tellings.get(v).size(); n++) {
                Form f = tellings.get(v).get(n);
                if (f.sort != sort || waysOf(v, f, 0, row, from, to, kept) == 0) {
                    continue;
                }
                List<T> in = new ArrayList<>();
                int at = from;
                for (int k = 0; k < f.items.length; k++) {
                    int mid = at + 1;
                    while (!partReads(v, f, k, row, at, mid, to, kept)) {
                        mid++;
                    }
                    if (f.items[k] >= 60) {
                        in.add(firstReading(v, f.items[k] - 60, row, at, mid, kept));
                    } else if (f.items[k] >= 20) {
                        in.add(leafOf(row.get(at)));
                    }
                    at = mid;
                }
                return new T(1000 + n, in);
            }
            throw new IllegalStateException();
        }

        boolean partReads(int v, Form f, int k, List<Integer> row, int at, int mid, int to, Map<Integer, Long> kept) {
            boolean here = f.items[k] >= 60 ? ways(v, f.items[k] - 60, row, at, mid, kept) > 0
                : mid == at + 1 && fit(f.items[k], row.get(at));
            return here && waysOf(v, f, k + 1, row, mid, to, kept) > 0;
        }

        int become(int tree, int v, T top) {
            if (top.nodes() > 40) {
                return LARGE;
            }
            trees[tree] = new Tree(v, top);
            return top.nodes();
        }

        int read(int v, int t, int tree) {
            if (!v(v) || !text(t) || !to(tree)) {
                return UNKNOWN;
            }
            List<Integer> row = texts.get(t);
            Map<Integer, Long> kept = new HashMap<>();
            if (ways(v, 0, row, 0, row.size(), kept) == 0) {
                return NOT;
            }
            return become(tree, v, firstReading(v, 0, row, 0, row.size(), kept));
        }

        /** The least cells of a row that has a reading as each sort; 99: there is none. */
        int[] shortest(int v) {
            int[] least = new int[6];
            Arrays.fill(least, 99);
            for (int round = 0; round < 200; round++) {
                for (Form f : tellings.get(v)) {
                    least[f.sort] = Math.min(least[f.sort], shortestOf(f, least));
                }
            }
            return least;
        }

        int shortestOf(Form f, int[] least) {
            int sum = 0;
            for (int c : f.items) {
                sum += c >= 60 ? least[c - 60] : 1;
            }
            return Math.min(sum, 99);
        }

        int idle(int v) {
            if (!v(v)) {
                return UNKNOWN;
            }
            int[] least = shortest(v);
            List<Integer> open = new ArrayList<>(List.of(0));
            List<Integer> seen = new ArrayList<>(open);
            int used = 0;
            while (!open.isEmpty()) {
                int sort = open.remove(0);
                for (int n = 0; n < tellings.get(v).size(); n++) {
                    Form f = tellings.get(v).get(n);
                    if (f.sort != sort || shortestOf(f, least) >= 99) {
                        continue;
                    }
                    used |= 1 << n;
                    for (int c : f.items) {
                        if (c >= 60 && !seen.contains(c - 60)) {
                            seen.add(c - 60);
                            open.add(c - 60);
                        }
                    }
                }
            }
            return ((1 << tellings.get(v).size()) - 1) & ~used;
        }

        /** All rows of a sort with n cells, with their readings. */
        Map<String, Long> rowsOf(int v, int sort, int n, Map<Integer, Map<String, Long>> kept) {
            int key = sort * 8 + n;
            if (!kept.containsKey(key)) {
                Map<String, Long> rows = new TreeMap<>();
                for (Form f : tellings.get(v)) {
                    if (f.sort == sort) {
                        rowsOfForm(v, f, 0, n, "", 1, rows, kept);
                    }
                }
                kept.put(key, rows);
            }
            return kept.get(key);
        }

        void rowsOfForm(int v, Form f, int k, int n, String row, long ways, Map<String, Long> rows, Map<Integer, Map<String, Long>> kept) {
            int left = f.items.length - k;
            if (left == 0) {
                if (n == 0) {
                    rows.merge(row, ways, Long::sum);
                }
                return;
            }
            for (int m = 1; m <= n - (left - 1); m++) {
                if (left == 1 && m != n) {
                    continue;
                }
                if (f.items[k] < 60) {
                    if (m == 1) {
                        rowsOfForm(v, f, k + 1, n - 1, row + (char) f.items[k], ways, rows, kept);
                    }
                } else {
                    for (Map.Entry<String, Long> e : rowsOf(v, f.items[k] - 60, m, kept).entrySet()) {
                        rowsOfForm(v, f, k + 1, n - m, row + e.getKey(), ways * e.getValue(), rows, kept);
                    }
                }
            }
        }

        boolean tooManyRows(int v, int n, Map<Integer, Map<String, Long>> kept) {
            boolean spent = false;
            for (int m = 1; m <= n && !spent; m++) {
                for (int s = 0; s < 6; s++) {
                    spent |= rowsOf(v, s, m, kept).size() > 100;
                }
            }
            return spent;
        }

        int rows(int v, int sort, int n) {
            if (!v(v)) {
                return UNKNOWN;
            }
            if (sort < 0 || sort > 5 || n < 1 || n > 4) {
                return OUTSIDE;
            }
            Map<Integer, Map<String, Long>> kept = new HashMap<>();
            return tooManyRows(v, n, kept) ? SPENT : rowsOf(v, sort, n, kept).size();
        }

        int two(int v, int n, int i) {
            if (!v(v)) {
                return UNKNOWN;
            }
            if (n < 1 || n > 4) {
                return OUTSIDE;
            }
            Map<Integer, Map<String, Long>> kept = new HashMap<>();
            if (tooManyRows(v, n, kept)) {
                return SPENT;
            }
            for (int m = 1; m <= n; m++) {
                for (Map.Entry<String, Long> e : rowsOf(v, 0, m, kept).entrySet()) {
                    if (e.getValue() >= 2) {
                        return i == NONE ? m : i >= 0 && i < m ? e.getKey().charAt(i) : NONE;
                    }
                }
            }
            return i == NONE ? 0 : NONE;
        }

        /** Prices of all parts for all sorts, made better until nothing changes. */
        int[][][] prices(int v, List<Integer> row) {
            int n = row.size();
            int[][][] p = new int[6][n + 1][n + 1];
            for (int[][] a : p) {
                for (int[] b : a) {
                    Arrays.fill(b, 1000000);
                }
            }
            boolean changed = true;
            while (changed) {
                changed = false;
                for (Form f : tellings.get(v)) {
                    for (int from = 0; from <= n; from++) {
                        for (int to = from; to <= n; to++) {
                            int price = priceOf(f, 0, row, from, to, p);
                            if (price < p[f.sort][from][to]) {
                                p[f.sort][from][to] = price;
                                changed = true;
                            }
                        }
                    }
                }
            }
            return p;
        }

        int priceOf(Form f, int k, List<Integer> row, int from, int to, int[][][] p) {
            if (k == f.items.length) {
                return from == to ? 0 : 1000000;
            }
            if (k == f.items.length - 1) {
                return itemPrice(f.items[k], row, from, to, p);
            }
            int least = 1000000;
            for (int mid = from; mid <= to; mid++) {
                int here = itemPrice(f.items[k], row, from, mid, p);
                if (here < least) {
                    least = Math.min(least, here + priceOf(f, k + 1, row, mid, to, p));
                }
            }
            return least;
        }

        int itemPrice(int item, List<Integer> row, int from, int to, int[][][] p) {
            if (item >= 60) {
                return p[item - 60][from][to];
            }
            for (int c : row.subList(from, to)) {
                if (fit(item, c)) {
                    return to - from - 1;
                }
            }
            return Math.max(to - from, 1);
        }

        int price(int v, int t) {
            if (!v(v) || !text(t)) {
                return UNKNOWN;
            }
            if (shortest(v)[0] >= 99) {
                return NOT;
            }
            List<Integer> row = texts.get(t);
            return prices(v, row)[0][0][row.size()];
        }

        T mending(int v, int sort, List<Integer> row, int from, int to, int[][][] p, int[] room) {
            for (int n = 0; n < tellings.get(v).size(); n++) {
                Form f = tellings.get(v).get(n);
                if (f.sort != sort || priceOf(f, 0, row, from, to, p) != p[sort][from][to]) {
                    continue;
                }
                if (--room[0] < 0) {
                    return null;
                }
                List<T> in = new ArrayList<>();
                int at = from;
                int left = p[sort][from][to];
                for (int k = 0; k < f.items.length; k++) {
                    int mid = at;
                    while (itemPrice(f.items[k], row, at, mid, p) + priceOf(f, k + 1, row, mid, to, p) != left) {
                        mid++;
                    }
                    left -= itemPrice(f.items[k], row, at, mid, p);
                    if (f.items[k] >= 60) {
                        in.add(mending(v, f.items[k] - 60, row, at, mid, p, room));
                    } else if (f.items[k] >= 20) {
                        int code = f.items[k];
                        for (int c = mid - 1; c >= at; c--) {
                            code = fit(f.items[k], row.get(c)) ? row.get(c) : code;
                        }
                        in.add(leafOf(code));
                    }
                    if (room[0] < 0) {
                        return null;
                    }
                    at = mid;
                }
                return new T(1000 + n, in);
            }
            throw new IllegalStateException();
        }

        int mend(int v, int t, int tree) {
            if (!v(v) || !text(t) || !to(tree)) {
                return UNKNOWN;
            }
            if (shortest(v)[0] >= 99) {
                return NOT;
            }
            List<Integer> row = texts.get(t);
            T top = mending(v, 0, row, 0, row.size(), prices(v, row), new int[] {40});
            return top == null ? LARGE : become(tree, v, top);
        }

        // trees

        List<int[]> written(int v, T t) {
            // of each code: the code, the kind of the gap behind it
            List<int[]> row = new ArrayList<>();
            if (!t.isNode()) {
                row.add(new int[] {t.code(), 1});
                return row;
            }
            Form f = tellings.get(v).get(t.form());
            int slot = 0;
            for (int k = 0; k < f.items.length; k++) {
                if (f.items[k] < 20) {
                    row.add(new int[] {f.items[k], 1});
                } else {
                    row.addAll(written(v, t.in().get(slot++)));
                }
                row.get(row.size() - 1)[1] = f.gaps[k];
            }
            return row;
        }

        int size(int tree, int what) {
            if (!tree(tree)) {
                return UNKNOWN;
            }
            Tree t = trees[tree];
            switch (what) {
                case 0:
                    return t.nodes.size();
                case 1:
                    return t.leaves.size();
                case 2:
                    return written(t.v, t.top).size();
                case 3:
                    return t.v;
                default:
                    return OUTSIDE;
            }
        }

        boolean node(int tree, int n) {
            return tree(tree) && n >= 0 && n < trees[tree].nodes.size();
        }

        boolean leaf(int tree, int l) {
            return tree(tree) && l >= 0 && l < trees[tree].leaves.size();
        }

        int node(int tree, int n, int what) {
            if (!node(tree, n)) {
                return UNKNOWN;
            }
            Piece p = trees[tree].nodes.get(n);
            switch (what) {
                case 0:
                    return p.t.form();
                case 1:
                    return p.up == null ? NONE : p.up.number;
                case 2:
                    return p.t.nodes();
                case 3:
                    return trees[tree].pins[n];
                default:
                    return OUTSIDE;
            }
        }

        int slot(int tree, int n, int i) {
            if (!node(tree, n)) {
                return UNKNOWN;
            }
            Piece p = trees[tree].nodes.get(n);
            if (i < 0 || i >= p.t.in().size()) {
                return OUTSIDE;
            }
            Piece q = trees[tree].childOf(p, i);
            return q.t.isNode() ? 1000 + q.number : q.t.code();
        }

        int leaf(int tree, int l, int what) {
            if (!leaf(tree, l)) {
                return UNKNOWN;
            }
            Piece p = trees[tree].leaves.get(l);
            switch (what) {
                case 0:
                    return p.t.code();
                case 1:
                    return p.up.number;
                case 2:
                    return p.slot;
                default:
                    return OUTSIDE;
            }
        }

        int spell(int tree, int i) {
            if (!tree(tree)) {
                return UNKNOWN;
            }
            List<int[]> row = written(trees[tree].v, trees[tree].top);
            return i >= 0 && i < row.size() ? row.get(i)[0] : NONE;
        }

        int write(int tree, int t) {
            if (!tree(tree) || !text(t)) {
                return UNKNOWN;
            }
            List<int[]> row = written(trees[tree].v, trees[tree].top);
            if (row.size() > 16) {
                return LARGE;
            }
            texts.get(t).clear();
            for (int[] x : row) {
                texts.get(t).add(x[0]);
            }
            return row.size();
        }

        int keep(int tree, int from) {
            if (!to(tree) || !tree(from)) {
                return UNKNOWN;
            }
            return become(tree, trees[from].v, trees[from].top);
        }

        int strike(int tree) {
            if (!tree(tree)) {
                return UNKNOWN;
            }
            int n = trees[tree].nodes.size();
            trees[tree] = null;
            return n;
        }

        int like(int a, int n, int b, int m) {
            if (!node(a, n) || !node(b, m)) {
                return UNKNOWN;
            }
            boolean is = trees[a].v == trees[b].v && trees[a].nodes.get(n).t.equals(trees[b].nodes.get(m).t);
            return is ? 1 : 0;
        }

        // the setting

        int pin(int tree, int n, int how) {
            if (!node(tree, n)) {
                return UNKNOWN;
            }
            if (how < 0 || how > 2) {
                return OUTSIDE;
            }
            int was = trees[tree].pins[n];
            trees[tree].pins[n] = how;
            return was;
        }

        /** The written codes as signs, a new line where an open node breaks; marks tell where each code begins. */
        String set(Tree t, List<Piece> open, List<int[]> marks) {
            StringBuilder all = new StringBuilder();
            setPiece(t, t.all.get(0), open, all, marks);
            return all.toString();
        }

        void setPiece(Tree t, Piece p, List<Piece> open, StringBuilder all, List<int[]> marks) {
            if (!p.t.isNode()) {
                int c = p.t.code();
                setCode(c >= 40 ? Integer.toString(c - 40).length() : 2, all, marks);
                return;
            }
            Form f = tellings.get(t.v).get(p.t.form());
            int slot = 0;
            for (int k = 0; k < f.items.length; k++) {
                if (f.items[k] < 20) {
                    setCode(lengths[t.v][f.items[k]], all, marks);
                } else {
                    setPiece(t, t.childOf(p, slot++), open, all, marks);
                }
                if (k == f.items.length - 1) {
                    break;
                }
                if (f.gaps[k] == 2 && open.contains(p)) {
                    all.append('\n');
                    for (Piece q = p; q != null; q = q.up) {
                        all.append(open.contains(q) ? "  " : "");
                    }
                } else if (f.gaps[k] != 0) {
                    all.append(' ');
                }
            }
        }

        void setCode(int length, StringBuilder all, List<int[]> marks) {
            int line = 0;
            int column = 0;
            for (int i = 0; i < all.length(); i++) {
                column = all.charAt(i) == '\n' ? 0 : column + 1;
                line += all.charAt(i) == '\n' ? 1 : 0;
            }
            marks.add(new int[] {line, column});
            all.append("x".repeat(length));
        }

        /** Cost, lines, set, greatest column; then the marks. */
        int[] laidOut(Tree t, int width, List<int[]> marks) {
            List<Piece> soft = new ArrayList<>();
            for (Piece p : t.nodes) {
                Form f = tellings.get(t.v).get(p.t.form());
                boolean is = false;
                for (int k = 0; k < f.items.length - 1; k++) {
                    is |= f.gaps[k] == 2;
                }
                if (is && soft.size() < 8) {
                    soft.add(p);
                }
            }
            int[] best = null;
            for (int set = 0; set < 1 << soft.size(); set++) {
                List<Piece> open = new ArrayList<>();
                boolean fine = true;
                for (int k = 0; k < soft.size(); k++) {
                    boolean is = (set >> k & 1) == 1;
                    int pin = t.pins[soft.get(k).number];
                    fine &= pin == 0 || is == (pin == 1);
                    if (is) {
                        open.add(soft.get(k));
                    }
                }
                if (!fine) {
                    continue;
                }
                List<int[]> here = new ArrayList<>();
                String[] lines = set(t, open, here).split("\n", -1);
                int over = 0;
                int reach = 0;
                for (String l : lines) {
                    over += Math.max(0, l.length() - width);
                    reach = Math.max(reach, l.length());
                }
                int[] now = {lines.length + 10 * over, lines.length, set, reach, open.size()};
                if (best == null || now[0] < best[0] || now[0] == best[0] && now[4] < best[4]) {
                    best = now;
                    marks.clear();
                    marks.addAll(here);
                }
            }
            return best;
        }

        int lay(int tree, int width, int what) {
            if (!tree(tree)) {
                return UNKNOWN;
            }
            if (width < 5 || width > 60 || what < 0 || what > 3) {
                return OUTSIDE;
            }
            return laidOut(trees[tree], width, new ArrayList<>())[what];
        }

        int laid(int tree, int width, int i, int what) {
            if (!tree(tree)) {
                return UNKNOWN;
            }
            if (width < 5 || width > 60 || what < 0 || what > 1) {
                return OUTSIDE;
            }
            List<int[]> marks = new ArrayList<>();
            laidOut(trees[tree], width, marks);
            return i >= 0 && i < marks.size() ? marks.get(i)[what] : NONE;
        }

        // comparing, joining

        int distance(int a, int b) {
            if (!tree(a) || !tree(b)) {
                return UNKNOWN;
            }
            T x = mark(trees[a].top, trees[a].v);
            T y = mark(trees[b].top, trees[b].v);
            // trying everything would take too long for large trees
            boolean large = (long) x.pieces() * y.pieces() > 400;
            return large ? new KnownWay(x, y).distance() : apart(List.of(x), List.of(y), new HashMap<>());
        }

        T mark(T t, int v) {
            List<T> in = new ArrayList<>();
            for (T i : t.in()) {
                in.add(mark(i, v));
            }
            return new T(t.isNode() ? t.code() + 5000 * v : t.code(), in);
        }

        int apart(List<T> a, List<T> b, Map<List<List<T>>, Integer> kept) {
            if (a.isEmpty() || b.isEmpty()) {
                int n = 0;
                for (T t : a) {
                    n += t.pieces();
                }
                for (T t : b) {
                    n += t.pieces();
                }
                return n;
            }
            List<List<T>> key = List.of(a, b);
            Integer known = kept.get(key);
            if (known != null) {
                return known;
            }
            T x = a.get(a.size() - 1);
            T y = b.get(b.size() - 1);
            List<T> a0 = a.subList(0, a.size() - 1);
            List<T> b0 = b.subList(0, b.size() - 1);
            List<T> a1 = new ArrayList<>(a0);
            a1.addAll(x.in());
            List<T> b1 = new ArrayList<>(b0);
            b1.addAll(y.in());
            int least = 1 + apart(a1, b, kept);
            least = Math.min(least, 1 + apart(a, b1, kept));
            int turn = x.code() == y.code() ? 0 : 1;
            least = Math.min(least, turn + apart(a0, b0, kept) + apart(x.in(), y.in(), kept));
            kept.put(key, least);
            return least;
        }

        int move(int a, int b, int what) {
            if (!tree(a) || !tree(b)) {
                return UNKNOWN;
            }
            if (what < 0 || what > 2) {
                return OUTSIDE;
            }
            int[] best = {NONE, NONE, NONE};
            for (Piece n : trees[a].nodes) {
                for (Piece m : trees[b].nodes) {
                    boolean both = n.number == 0 && m.number == 0;
                    if (!both && trees[a].v == trees[b].v && n.t.equals(m.t) && n.t.nodes() > best[2]) {
                        best = new int[] {n.number, m.number, n.t.nodes()};
                    }
                }
            }
            return best[what];
        }

        T joined(T b, T l, T r, int[] clashes) {
            if (l.equals(b)) {
                return r;
            }
            if (r.equals(b) || l.equals(r)) {
                return l;
            }
            if (b.isNode() && b.code() == l.code() && b.code() == r.code()) {
                List<T> in = new ArrayList<>();
                for (int i = 0; i < b.in().size(); i++) {
                    in.add(joined(b.in().get(i), l.in().get(i), r.in().get(i), clashes));
                }
                return new T(b.code(), in);
            }
            clashes[0]++;
            return b;
        }

        int join(int b, int l, int r, int to) {
            if (!tree(b) || !tree(l) || !tree(r) || !to(to)) {
                return UNKNOWN;
            }
            int v = trees[b].v;
            if (trees[l].v != v || trees[r].v != v) {
                return NOT;
            }
            int[] clashes = {0};
            T t = joined(trees[b].top, trees[l].top, trees[r].top, clashes);
            return become(to, v, t) == LARGE ? LARGE : clashes[0];
        }

        // names

        /** 0 a use, 1 and 2 a tell, -1 a number. */
        int naming(Tree t, Piece p) {
            if (p.t.code() >= 40) {
                return -1;
            }
            return tellings.get(t.v).get(p.up.t.form()).naming[p.slot];
        }

        Piece reach(Tree t, Piece tell) {
            for (Piece p = tell.up; p != null; p = p.up) {
                if (tellings.get(t.v).get(p.t.form()).scope) {
                    return p;
                }
            }
            return t.all.get(0);
        }

        boolean isIn(Piece p, Piece node) {
            for (Piece q = p; q != null; q = q.up) {
                if (q == node) {
                    return true;
                }
            }
            return false;
        }

        Piece boundTo(Tree t, Piece use) {
            for (Piece around = use.up; around != null; around = around.up) {
                Piece ahead = null;
                Piece behind = null;
                for (Piece tell : t.leaves) {
                    int how = naming(t, tell);
                    if (how < 1 || tell.t.code() != use.t.code() || reach(t, tell) != around) {
                        continue;
                    }
                    if (tell.number < use.number) {
                        ahead = tell;
                    } else if (how == 2 && behind == null) {
                        behind = tell;
                    }
                }
                if (ahead != null || behind != null) {
                    return ahead != null ? ahead : behind;
                }
            }
            return null;
        }

        int bound(int tree, int l) {
            if (!leaf(tree, l)) {
                return UNKNOWN;
            }
            Tree t = trees[tree];
            if (naming(t, t.leaves.get(l)) != 0) {
                return NOT;
            }
            Piece p = boundTo(t, t.leaves.get(l));
            return p == null ? NONE : p.number;
        }

        int uses(int tree, int l) {
            if (!leaf(tree, l)) {
                return UNKNOWN;
            }
            Tree t = trees[tree];
            if (naming(t, t.leaves.get(l)) < 1) {
                return NOT;
            }
            int n = 0;
            for (int u = 0; u < t.leaves.size(); u++) {
                n += bound(tree, u) == l ? 1 : 0;
            }
            return n;
        }

        T renamed(Tree t, Piece p, List<Integer> which, int code) {
            if (!p.t.isNode()) {
                return which.contains(p.number) ? leafOf(code) : p.t;
            }
            List<T> in = new ArrayList<>();
            for (int i = 0; i < p.t.in().size(); i++) {
                in.add(renamed(t, t.childOf(p, i), which, code));
            }
            return new T(p.t.code(), in);
        }

        int rename(int tree, int l, int to) {
            if (!leaf(tree, l)) {
                return UNKNOWN;
            }
            if (to < 0 || to > 15) {
                return OUTSIDE;
            }
            Tree t = trees[tree];
            if (naming(t, t.leaves.get(l)) < 1) {
                return NOT;
            }
            List<Integer> which = new ArrayList<>(List.of(l));
            for (int u = 0; u < t.leaves.size(); u++) {
                if (bound(tree, u) == l) {
                    which.add(u);
                }
            }
            Tree now = new Tree(t.v, renamed(t, t.all.get(0), which, 20 + to));
            now.pins = t.pins;
            for (int u = 0; u < t.leaves.size(); u++) {
                if (naming(t, t.leaves.get(u)) == 0) {
                    Piece was = boundTo(t, t.leaves.get(u));
                    Piece is = boundTo(now, now.leaves.get(u));
                    if ((was == null ? -1 : was.number) != (is == null ? -1 : is.number)) {
                        return -200 - u;
                    }
                }
            }
            trees[tree] = now;
            return 1;
        }

        // kinds

        /** Piece, mate or null, kind, code. */
        record Held(Piece piece, Piece mate, int kind, int code) {
        }

        List<Held> held(Tree t) {
            List<Held> all = new ArrayList<>();
            for (Piece p : t.nodes) {
                List<int[]> rules = tellings.get(t.v).get(p.t.form()).rules;
                for (int r = 0; r < rules.size(); r++) {
                    int[] rule = rules.get(r);
                    Piece of = rule[0] == NONE ? p : t.childOf(p, rule[0]);
                    Piece mate = rule[1] >= 10 ? t.childOf(p, rule[1] - 10) : null;
                    all.add(new Held(of, mate, rule[1], 100 * p.number + r));
                }
            }
            for (Piece l : t.leaves) {
                if (naming(t, l) == 0 && boundTo(t, l) != null) {
                    all.add(new Held(l, boundTo(t, l), -1, 10000 + l.number));
                }
            }
            return all;
        }

        /** The sets of kinds of all pieces, handed on until nothing changes. */
        int[] kinds(Tree t, List<Held> all) {
            int[] sets = new int[t.all.size()];
            boolean changed = true;
            while (changed) {
                changed = false;
                for (Held h : all) {
                    int was = sets[h.piece.order];
                    if (h.mate == null) {
                        sets[h.piece.order] |= 1 << h.kind;
                    } else {
                        changed |= sets[h.mate.order] != (sets[h.mate.order] | was);
                        sets[h.mate.order] |= was;
                        sets[h.piece.order] |= sets[h.mate.order];
                    }
                    changed |= sets[h.piece.order] != was;
                }
            }
            return sets;
        }

        boolean fault(Tree t, List<Held> all) {
            for (int set : kinds(t, all)) {
                if (Integer.bitCount(set) > 1) {
                    return true;
                }
            }
            return false;
        }

        int kind(int tree, int k, boolean leaf) {
            if (leaf ? !leaf(tree, k) : !node(tree, k)) {
                return UNKNOWN;
            }
            Tree t = trees[tree];
            Piece p = leaf ? t.leaves.get(k) : t.nodes.get(k);
            int set = kinds(t, held(t))[p.order];
            return set == 0 ? NONE : Integer.bitCount(set) > 1 ? 9 : Integer.numberOfTrailingZeros(set);
        }

        List<Held> blamedOf(Tree t) {
            List<Held> left = held(t);
            if (!fault(t, left)) {
                return List.of();
            }
            for (Held h : new ArrayList<>(left)) {
                List<Held> without = new ArrayList<>(left);
                without.remove(h);
                if (fault(t, without)) {
                    left = without;
                }
            }
            return left;
        }

        int blamed(int tree, int i) {
            if (!tree(tree)) {
                return UNKNOWN;
            }
            List<Held> left = blamedOf(trees[tree]);
            return i == NONE ? left.size() : i >= 0 && i < left.size() ? left.get(i).code : NONE;
        }

        // meaning

        int world(int w, int name, int v) {
            if (w < 0 || w > 3) {
                return UNKNOWN;
            }
            if (name < 0 || name > 15) {
                return OUTSIDE;
            }
            int was = worlds[w][name];
            worlds[w][name] = v;
            return was;
        }

        /** The value of a piece; fuel[0] goes below 0 when there is none left. */
        int valueOf(int v, T t, Map<Integer, Integer> lets, int[] world, int[] fuel) {
            if (!t.isNode()) {
                int c = t.code();
                if (c >= 200) {
                    return world[c - 200];
                }
                return c >= 40 ? c - 40 : lets.getOrDefault(c, world[c - 20]);
            }
            if (--fuel[0] < 0) {
                return 0;
            }
            List<T> in = t.in();
            int act = tellings.get(v).get(t.form()).act;
            if (act == 6 || act == 7) {
                return act == 6 ? 7 : in.size();
            }
            if (act == 4 || act == 5) {
                if (in.size() < 3) {
                    return 0;
                }
                T one = in.get(0);
                if (act == 5) {
                    int x = valueOf(v, one, lets, world, fuel);
                    return fuel[0] < 0 ? 0 : valueOf(v, in.get(x == 0 ? 1 : 2), lets, world, fuel);
                }
                if (one.isNode() || one.code() >= 40) {
                    return 0;
                }
                int x = valueOf(v, in.get(1), lets, world, fuel);
                Map<Integer, Integer> more = new HashMap<>(lets);
                more.put(one.code(), x);
                return fuel[0] < 0 ? 0 : valueOf(v, in.get(2), more, world, fuel);
            }
            int all = act == 2 ? 1 : 0;
            for (int i = 0; i < in.size() && fuel[0] >= 0; i++) {
                if (act == 0 && i > 0) {
                    break;
                }
                int x = valueOf(v, in.get(i), lets, world, fuel);
                all = act == 2 ? all * x : act == 3 && i > 0 ? all - x : all + x;
            }
            return all;
        }

        int run(int tree, int w, int fuel) {
            if (!tree(tree) || w < 0 || w > 3) {
                return UNKNOWN;
            }
            if (fuel < 1 || fuel > 1000) {
                return OUTSIDE;
            }
            int[] left = {fuel};
            int x = valueOf(trees[tree].v, trees[tree].top, Map.of(), worlds[w], left);
            if (left[0] < 0) {
                return SPENT;
            }
            latest = x;
            return fuel - left[0];
        }

        int value() {
            return latest;
        }

        // turns

        int show(int before, int after) {
            if (!tree(before) || !tree(after)) {
                return UNKNOWN;
            }
            int v = trees[before].v;
            if (v != trees[after].v || !pairs.isEmpty() && pairV != v) {
                return NOT;
            }
            if (pairs.size() == 4) {
                return FULL;
            }
            pairV = v;
            pairs.add(new T[] {trees[before].top, trees[after].top});
            return pairs.size();
        }

        int hide() {
            int n = pairs.size();
            pairs.clear();
            return n;
        }

        T laidOver(List<T> row, Map<List<T>, Integer> holes, boolean mayAdd) {
            T one = row.get(0);
            boolean same = true;
            for (T t : row) {
                same &= t.code() == one.code();
            }
            if (!same) {
                if (!holes.containsKey(row)) {
                    if (!mayAdd) {
                        return null;
                    }
                    holes.put(row, holes.size());
                }
                return leafOf(200 + holes.get(row));
            }
            List<T> in = new ArrayList<>();
            for (int i = 0; i < one.in().size(); i++) {
                List<T> next = new ArrayList<>();
                for (T t : row) {
                    next.add(t.in().get(i));
                }
                T x = laidOver(next, holes, mayAdd);
                if (x == null) {
                    return null;
                }
                in.add(x);
            }
            return new T(one.code(), in);
        }

        int find(int turn) {
            if (turn < 0 || turn > 5) {
                return UNKNOWN;
            }
            if (pairs.isEmpty()) {
                return NOT;
            }
            List<T> befores = new ArrayList<>();
            List<T> afters = new ArrayList<>();
            for (T[] p : pairs) {
                befores.add(p[0]);
                afters.add(p[1]);
            }
            Map<List<T>, Integer> holes = new LinkedHashMap<>();
            T before = laidOver(befores, holes, true);
            if (!before.isNode() || holes.size() > 16) {
                return NOT;
            }
            T after = laidOver(afters, holes, false);
            if (after == null) {
                return NOT;
            }
            Turn t = new Turn();
            t.v = pairV;
            t.before = before;
            t.after = after;
            turns[turn] = t;
            return holes.size();
        }

        boolean turn(int t) {
            return t >= 0 && t < 6 && turns[t] != null;
        }

        int turned(int turn, int side, int i) {
            if (!turn(turn)) {
                return UNKNOWN;
            }
            if (side != 0 && side != 1) {
                return OUTSIDE;
            }
            List<int[]> row = written(turns[turn].v, side == 0 ? turns[turn].before : turns[turn].after);
            return i >= 0 && i < row.size() ? row.get(i)[0] : NONE;
        }

        boolean match(T pattern, T t, Map<Integer, T> stands) {
            if (pattern.code() >= 200 && !pattern.isNode()) {
                T was = stands.putIfAbsent(pattern.code(), t);
                return was == null || was.equals(t);
            }
            if (pattern.code() != t.code()) {
                return false;
            }
            for (int i = 0; i < pattern.in().size(); i++) {
                if (!match(pattern.in().get(i), t.in().get(i), stands)) {
                    return false;
                }
            }
            return true;
        }

        Map<Integer, T> fitting(int v, T pattern, T t) {
            if (!t.isNode() || tellings.get(v).get(t.form()).sort != 0) {
                return null;
            }
            Map<Integer, T> stands = new HashMap<>();
            return match(pattern, t, stands) ? stands : null;
        }

        T filled(T pattern, Map<Integer, T> stands) {
            if (!pattern.isNode() && pattern.code() >= 200) {
                return stands.get(pattern.code());
            }
            List<T> in = new ArrayList<>();
            for (T t : pattern.in()) {
                in.add(filled(t, stands));
            }
            return new T(pattern.code(), in);
        }

        int fits(int turn, int tree) {
            if (!turn(turn) || !tree(tree)) {
                return UNKNOWN;
            }
            if (turns[turn].v != trees[tree].v) {
                return 0;
            }
            int n = 0;
            for (Piece p : trees[tree].nodes) {
                n += fitting(trees[tree].v, turns[turn].before, p.t) != null ? 1 : 0;
            }
            return n;
        }

        T applied(int v, Turn turn, T t, int[] places) {
            Map<Integer, T> stands = fitting(v, turn.before, t);
            if (stands != null) {
                places[0]++;
                return filled(turn.after, stands);
            }
            List<T> in = new ArrayList<>();
            for (T i : t.in()) {
                in.add(applied(v, turn, i, places));
            }
            return new T(t.code(), in);
        }

        int apply(int turn, int tree, int to) {
            if (!turn(turn) || !tree(tree) || !to(to)) {
                return UNKNOWN;
            }
            int v = trees[tree].v;
            if (turns[turn].v != v) {
                return NOT;
            }
            int[] places = {0};
            T t = applied(v, turns[turn], trees[tree].top, places);
            return become(to, v, t) == LARGE ? LARGE : places[0];
        }

        int law(int turn, boolean is) {
            if (!turn(turn)) {
                return UNKNOWN;
            }
            int was = turns[turn].law ? 1 : 0;
            turns[turn].law = is;
            return was;
        }

        void holesOf(T t, List<Integer> holes) {
            if (!t.isNode() && t.code() >= 200) {
                holes.add(t.code());
            }
            for (T i : t.in()) {
                holesOf(i, holes);
            }
        }

        /** All trees got by putting in at one node, in the order of the nodes. */
        List<T> onward(int v, T out, T in, T t) {
            List<T> all = new ArrayList<>();
            Map<Integer, T> stands = fitting(v, out, t);
            if (stands != null) {
                all.add(filled(in, stands));
            }
            for (int i = 0; i < t.in().size(); i++) {
                for (T x : onward(v, out, in, t.in().get(i))) {
                    List<T> parts = new ArrayList<>(t.in());
                    parts.set(i, x);
                    all.add(new T(t.code(), parts));
                }
            }
            return all;
        }

        int kept(int turn) {
            if (!turn(turn)) {
                return UNKNOWN;
            }
            Turn of = turns[turn];
            Map<T, Integer> steps = new LinkedHashMap<>();
            steps.put(of.before, 0);
            if (of.before.equals(of.after)) {
                return 0;
            }
            ArrayDeque<T> open = new ArrayDeque<>(List.of(of.before));
            while (!open.isEmpty()) {
                T t = open.poll();
                List<T> next = new ArrayList<>();
                for (Turn law : turns) {
                    if (law == null || law == of || !law.law || law.v != of.v) {
                        continue;
                    }
                    next.addAll(onward(of.v, law.before, law.after, t));
                    List<Integer> needed = new ArrayList<>();
                    List<Integer> given = new ArrayList<>();
                    holesOf(law.before, needed);
                    holesOf(law.after, given);
                    if (given.containsAll(needed)) {
                        next.addAll(onward(of.v, law.after, law.before, t));
                    }
                }
                for (T x : next) {
                    if (x.nodes() > 40 || steps.containsKey(x)) {
                        continue;
                    }
                    if (x.equals(of.after)) {
                        return steps.get(t) + 1;
                    }
                    if (steps.size() == 60) {
                        return SPENT;
                    }
                    steps.put(x, steps.get(t) + 1);
                    open.add(x);
                }
            }
            return NONE;
        }

        int tried(int turn) {
            if (!turn(turn)) {
                return UNKNOWN;
            }
            boolean one = true;
            for (int[] w : worlds) {
                int[] a = {1000};
                int[] b = {1000};
                int x = valueOf(turns[turn].v, turns[turn].before, Map.of(), w, a);
                int y = valueOf(turns[turn].v, turns[turn].after, Map.of(), w, b);
                if (a[0] < 0 || b[0] < 0) {
                    return SPENT;
                }
                one &= x == y;
            }
            return one ? 1 : 0;
        }

        // carrying

        int map(int f, int g, int a, int b, int c, int d, int e) {
            if (!f(0, f) || !f(1, g)) {
                return UNKNOWN;
            }
            int[] from = tellings.get(0).get(f).slotItems;
            int[] to = tellings.get(1).get(g).slotItems;
            int[] told = Arrays.copyOf(new int[] {a, b, c, d, e}, to.length);
            for (int i = 0; i < told.length; i++) {
                if (told[i] < 0 || told[i] >= from.length) {
                    return OUTSIDE;
                }
                if (Math.min(from[told[i]], 60) != Math.min(to[i], 60)) {
                    return OUTSIDE;
                }
                for (int j = 0; j < i; j++) {
                    if (told[j] == told[i]) {
                        return OUTSIDE;
                    }
                }
            }
            maps[f] = told;
            mapTo[f] = g;
            return count(6);
        }

        int unmap(int f) {
            if (!f(0, f)) {
                return UNKNOWN;
            }
            int was = maps[f] == null ? 0 : 1;
            maps[f] = null;
            return was;
        }

        T carried(T t) {
            if (!t.isNode()) {
                return t;
            }
            List<T> in = new ArrayList<>();
            for (int s : maps[t.form()]) {
                in.add(carried(t.in().get(s)));
            }
            return new T(1000 + mapTo[t.form()], in);
        }

        boolean stands(T t, int item) {
            if (!t.isNode()) {
                return true;
            }
            Form f = tellings.get(1).get(t.form());
            boolean fine = f.sort == item - 60;
            for (int i = 0; i < t.in().size(); i++) {
                fine &= stands(t.in().get(i), f.slotItems[i]);
            }
            return fine;
        }

        int carry(int tree, int to) {
            if (!tree(tree) || !to(to)) {
                return UNKNOWN;
            }
            if (left(tree) != NONE) {
                return NOT;
            }
            T t = carried(trees[tree].top);
            return stands(t, 60) ? become(to, 1, t) : NOT;
        }

        int left(int tree) {
            if (!tree(tree)) {
                return UNKNOWN;
            }
            if (trees[tree].v == 1) {
                return NOT;
            }
            for (Piece p : trees[tree].nodes) {
                if (maps[p.t.form()] == null) {
                    return p.number;
                }
            }
            return NONE;
        }

        // the teacher, sheets

        int hint(int v, int t, int what) {
            if (!v(v) || !text(t)) {
                return UNKNOWN;
            }
            if (what != 0 && what != 1) {
                return OUTSIDE;
            }
            int n = readings(v, t);
            if (n != 1) {
                return what == 1 ? NONE : n == 0 ? 1 : 2;
            }
            List<Integer> row = texts.get(t);
            T top = firstReading(v, 0, row, 0, row.size(), new HashMap<>());
            if (top.nodes() > 40) {
                return LARGE;
            }
            Tree tree = new Tree(v, top);
            for (Piece p : tree.leaves) {
                if (naming(tree, p) == 0 && boundTo(tree, p) == null) {
                    return what == 0 ? 3 : p.number;
                }
            }
            List<Held> blamed = blamedOf(tree);
            if (!blamed.isEmpty()) {
                return what == 0 ? 4 : blamed.get(0).code;
            }
            return what == 0 ? 0 : NONE;
        }

        boolean sheet(int s) {
            return s >= 0 && s <= 3;
        }

        int forge(int s, int form, int n) {
            if (!sheet(s)) {
                return UNKNOWN;
            }
            if (form < 0 || form > 3 || n > 40) {
                return OUTSIDE;
            }
            if (n < 0) {
                return -14;
            }
            sheets[s] = new int[n];
            sheetForm[s] = form;
            return n;
        }

        int set(int s, int i, int v) {
            if (!sheet(s)) {
                return UNKNOWN;
            }
            if (sheets[s] == null) {
                return -11;
            }
            if (i < 0 || i >= sheets[s].length) {
                return -13;
            }
            long x = v;
            if (sheetForm[s] == 0) {
                x = Math.floorMod(x + 128, 256L) - 128;
            } else if (sheetForm[s] == 1) {
                x = Math.floorMod(x + 32768, 65536L) - 32768;
            } else if (sheetForm[s] == 3) {
                x = Math.floorMod(x, 65536L);
            }
            sheets[s][i] = (int) x;
            return (int) x;
        }

        int get(int s, int i) {
            if (!sheet(s)) {
                return UNKNOWN;
            }
            if (sheets[s] == null) {
                return -11;
            }
            return i < 0 || i >= sheets[s].length ? -13 : sheets[s][i];
        }

        int copy(int s, int i, int r, int j, int n) {
            if (!sheet(s) || !sheet(r)) {
                return UNKNOWN;
            }
            if (sheets[s] == null || sheets[r] == null) {
                return -11;
            }
            if (sheetForm[s] != sheetForm[r]) {
                return -12;
            }
            if (i < 0 || j < 0 || n < 0 || (long) i + n > sheets[s].length || (long) j + n > sheets[r].length) {
                return -13;
            }
            int[] row = sheets[s].clone();
            for (int k = 0; k < n; k++) {
                sheets[r][j + k] = row[i + k];
            }
            return 1;
        }

        int take(int t, int s) {
            if (!text(t) || !sheet(s)) {
                return UNKNOWN;
            }
            if (sheets[s] == null) {
                return -11;
            }
            if (sheets[s].length > 16) {
                return FULL;
            }
            for (int c : sheets[s]) {
                if (!isCode(c)) {
                    return -15;
                }
            }
            texts.get(t).clear();
            for (int c : sheets[s]) {
                texts.get(t).add(c);
            }
            return sheets[s].length;
        }
    }

    /** The distance of two trees in the well-known way, by their pieces in postorder and the leftmost leaf of each. */
    static final class KnownWay {
        final List<T> a = new ArrayList<>();
        final List<T> b = new ArrayList<>();
        final List<Integer> leftA = new ArrayList<>();
        final List<Integer> leftB = new ArrayList<>();
        final int[][] known;

        KnownWay(T x, T y) {
            list(x, a, leftA);
            list(y, b, leftB);
            known = new int[a.size()][b.size()];
        }

        static int list(T t, List<T> all, List<Integer> left) {
            int first = -1;
            for (T i : t.in()) {
                int of = list(i, all, left);
                first = first < 0 ? of : first;
            }
            all.add(t);
            left.add(first < 0 ? all.size() - 1 : first);
            return left.get(left.size() - 1);
        }

        int distance() {
            for (int i = 0; i < a.size(); i++) {
                for (int j = 0; j < b.size(); j++) {
                    if (leftA.lastIndexOf(leftA.get(i)) == i && leftB.lastIndexOf(leftB.get(j)) == j) {
                        parts(i, j);
                    }
                }
            }
            return known[a.size() - 1][b.size() - 1];
        }

        void parts(int i, int j) {
            int p = leftA.get(i);
            int q = leftB.get(j);
            int[][] row = new int[i - p + 2][j - q + 2];
            for (int m = 0; m <= i - p + 1; m++) {
                for (int n = 0; n <= j - q + 1; n++) {
                    if (m == 0 || n == 0) {
                        row[m][n] = m + n;
                        continue;
                    }
                    int s = p + m - 1;
                    int t = q + n - 1;
                    int least = 1 + Math.min(row[m - 1][n], row[m][n - 1]);
                    if (leftA.get(s) == p && leftB.get(t) == q) {
                        least = Math.min(least, row[m - 1][n - 1] + (a.get(s).code() == b.get(t).code() ? 0 : 1));
                        known[s][t] = least;
                    } else {
                        least = Math.min(least, row[leftA.get(s) - p][leftB.get(t) - q] + known[s][t]);
                    }
                    row[m][n] = least;
                }
            }
        }
    }

    // ------------------------------------------------------------------ the runs

    static final class Run {
        static final int CALLS = 512;
        static final Map<String, Method> TOOLS = new TreeMap<>();
        static final Map<String, Method> MODELS = new HashMap<>();
        static final Map<String, Map<String, Integer>> ANSWERS = new TreeMap<>();

        static {
            for (Method m : GrammarTools.class.getDeclaredMethods()) {
                if (Modifier.isPublic(m.getModifiers())) {
                    TOOLS.put(m.getName(), m);
                    try {
                        MODELS.put(m.getName(), Model.class.getDeclaredMethod(m.getName(), m.getParameterTypes()));
                    } catch (NoSuchMethodException e) {
                        throw new IllegalStateException(e);
                    }
                }
            }
        }

        final int number;
        final Random random;
        final GrammarTools tools = new GrammarTools();
        final Model model = new Model();
        final List<String> log = new ArrayList<>();
        boolean fine = true;

        Run(int number) {
            this.number = number;
            this.random = new Random(number * 7919L + 17);
        }

        static void printAnswers() {
            ANSWERS.forEach((name, answers) -> System.out.println(name + " " + answers));
        }

        int call(String name, Object... args) {
            if (log.size() >= CALLS || !fine) {
                return 0;
            }
            try {
                int want = (int) MODELS.get(name).invoke(model, args);
                String line = name + Arrays.toString(args);
                log.add(line);
                int got = (int) TOOLS.get(name).invoke(tools, args);
                log.set(log.size() - 1, line + " = " + got);
                count(name, want);
                if (got != want) {
                    tell("answered " + got + ", due is " + want);
                }
                return got;
            } catch (InvocationTargetException e) {
                tell("threw " + e.getCause());
                e.getCause().printStackTrace(System.out);
            } catch (IllegalAccessException e) {
                throw new IllegalStateException(e);
            }
            return 0;
        }

        void tell(String what) {
            fine = false;
            System.out.println("run " + number + ": the last of these calls " + what);
            for (String line : log) {
                System.out.println("    " + line);
            }
        }

        static void count(String name, int answer) {
            String[] refusals = {"UNKNOWN", "OUTSIDE", "NOT", "FULL", "SPENT", "LARGE"};
            int k = -100001 - answer;
            String kind = k >= 0 && k < 6 ? refusals[k] : answer < -1 ? "other" : answer == -1 ? "NONE"
                : answer == 0 ? "0" : answer == 1 ? "1" : ">1";
            ANSWERS.computeIfAbsent(name, x -> new TreeMap<>()).merge(kind, 1, Integer::sum);
        }

        int to(int n) {
            return random.nextInt(n);
        }

        boolean chance(int percent) {
            return to(100) < percent;
        }

        int one(int... of) {
            return of[to(of.length)];
        }

        /** A number that is mostly x, seldom one at the edges or far out. */
        int mostly(int x) {
            return chance(4) ? one(-1, -2, 0, 1, 5, 6, 7, 8, 12, 13, 16, 40, 41, 100, 1000, Integer.MAX_VALUE, Integer.MIN_VALUE) : x;
        }

        boolean go() {
            int v = to(2);
            tellForms(v);
            if (chance(25)) {
                for (Form f : new ArrayList<>(model.tellings.get(v))) {
                    tellForm(1 - v, like(f));
                }
            } else if (chance(20)) {
                tellForms(1 - v);
            }
            for (int i = to(25); i > 0; i--) {
                decorate();
            }
            if (chance(50)) {
                nameAll(v);
                for (int f = 0; f < model.tellings.get(v).size(); f++) {
                    call("scope", v, f, chance(40));
                }
            }
            if (chance(30)) {
                mapAlike();
            }
            while (log.size() < CALLS && fine) {
                step();
            }
            return fine;
        }

        // ---- tellings

        static final int[][] SUMS = {
            {0, 61}, {0, 60, 0, 61}, {1, 40}, {1, 20}, {1, 2, 60, 3}, {1, 4, 20, 5, 60}};
        static final int[][] RIGHT = {
            {0, 61, 1, 60}, {0, 61}, {1, 62, 2, 61}, {1, 62}, {2, 20}, {2, 40}, {2, 3, 60, 4}, {2, 5, 20, 60, 60}};
        static final int[][] PLAIN = {
            {0, 40}, {0, 20}, {0, 60, 1, 60}, {0, 2, 60, 60}, {0, 3, 20, 60, 60}, {0, 4}, {0, 5, 60, 60, 60, 60}};
        static final int[][] LISTS = {
            {0, 1, 61, 2}, {1, 62}, {1, 61, 62}, {2, 20, 40}, {2, 3, 20, 60}, {2, 60, 60}, {0, 7, 20, 20, 61}};

        static final int[][] DEEP = {
            {0, 61, 60}, {0, 61}, {1, 62}, {2, 63}, {3, 20}, {3, 40}, {3, 1, 60, 2}, {3, 3, 20, 60, 60, 60}};
        static final int[][] WIDE = {
            {0, 40, 40, 40, 40, 40}, {0, 60, 60, 60, 60, 60}, {0, 20}, {0, 1, 20, 60}};
        static final int[][] LETS = {
            {0, 4, 20, 60, 60}, {0, 6, 20, 60}, {0, 20}, {0, 2, 60, 60}, {0, 7, 20, 20, 60}, {0, 8, 60, 20}, {0, 40}};
        static final int[][][] KNOWN = {SUMS, RIGHT, PLAIN, PLAIN, LISTS, DEEP, WIDE, LETS, LETS};

        void tellForms(int v) {
            int kind = to(KNOWN.length + 2);
            if (kind < KNOWN.length) {
                for (int[] f : KNOWN[kind]) {
                    tellForm(v, f);
                }
                while (chance(20)) {
                    tellForm(v, randomForm(3));
                }
                return;
            }
            int sorts = 1 + to(6);
            for (int n = 2 + to(8); n > 0; n--) {
                tellForm(v, randomForm(sorts));
            }
            for (int sort = 0; sort < sorts && chance(95); sort++) {
                tellForm(v, new int[] {sort, one(20, 40, 20, 40, 7)});
            }
        }

        int[] randomForm(int sorts) {
            int[] f = new int[2 + one(0, 0, 1, 1, 2, 2, 3, 4)];
            f[0] = to(sorts);
            for (int k = 1; k < f.length; k++) {
                f[k] = chance(25) ? to(4) : chance(25) ? one(20, 40) : chance(97) ? 60 + to(sorts) : one(12, 19, 21, 41, 59, 66, 39);
            }
            if (f.length == 2 && f[1] >= 60 && chance(80)) {
                f[1] = one(20, 40, 60 + Math.min(5, f[0] + 1), to(12));
            }
            return f;
        }

        int[] like(Form f) {
            int[] row = new int[f.items.length + 1];
            row[0] = f.sort;
            System.arraycopy(f.items, 0, row, 1, f.items.length);
            return row;
        }

        void tellForm(int v, int[] f) {
            int[] a = {NONE, to(12), NONE, 60, 99};
            for (int k = 1; k < f.length; k++) {
                a[k - 1] = f[k];
            }
            if (f.length < 6) {
                a[f.length - 1] = NONE;
            }
            call("form", v, f[0], a[0], a[1], a[2], a[3], a[4]);
        }

        void decorate() {
            int v = telling();
            int f = form(v);
            switch (to(9)) {
                case 0:
                    call("gap", v, f, mostly(to(4)), mostly(to(3)));
                    break;
                case 1:
                    for (int i = 0; i < 3; i++) {
                        call("gap", v, form(v), to(2), 2);
                    }
                    break;
                case 2:
                    call("name", v, f, mostly(to(3)), mostly(to(3)));
                    break;
                case 3:
                    call("scope", v, f, chance(70));
                    break;
                case 4:
                case 5:
                    int slots = model.f(v, f) ? model.tellings.get(v).get(f).slotItems.length : 3;
                    int kind = chance(60) ? to(2) : 10 + to(Math.max(1, slots));
                    call("rule", v, f, mostly(to(slots + 1) - 1), mostly(kind));
                    break;
                case 6:
                    call("mean", v, f, mostly(to(8)));
                    break;
                case 7:
                    call("length", v, mostly(to(12)), mostly(1 + to(9)));
                    break;
                default:
                    nameAll(v);
                    break;
            }
        }

        /** Makes each name slot a use or a tell. */
        void nameAll(int v) {
            if (!model.v(v)) {
                return;
            }
            for (int f = 0; f < model.tellings.get(v).size(); f++) {
                int[] slots = model.tellings.get(v).get(f).slotItems;
                for (int i = 0; i < slots.length; i++) {
                    if (slots[i] == 20 && slots.length > 1 && chance(70)) {
                        call("name", v, f, i, 1 + to(2));
                    }
                }
            }
        }

        // ---- texts

        /** Adds a row of at most room cells that has a reading as a sort, where there is such a row. */
        void sentence(int v, int sort, int room, int[] least, List<Integer> row) {
            List<Form> of = new ArrayList<>();
            for (Form f : model.tellings.get(v)) {
                if (f.sort == sort && model.shortestOf(f, least) <= room) {
                    of.add(f);
                }
            }
            if (of.isEmpty()) {
                return;
            }
            Form f = of.get(to(of.size()));
            Form other = of.get(to(of.size()));
            f = other.items.length > f.items.length ? other : f;
            int spare = room - model.shortestOf(f, least);
            for (int k = 0; k < f.items.length; k++) {
                int item = f.items[k];
                if (item < 60) {
                    row.add(item == 20 ? 20 + to(3) : item == 40 ? one(40, 41, 42, 49, 50, 139) : item);
                } else {
                    int more = k == f.items.length - 1 ? spare : to(spare + 1);
                    spare -= more;
                    sentence(v, item - 60, least[item - 60] + more, least, row);
                }
            }
        }

        void fill(int t, List<Integer> row) {
            call("wipe", t);
            for (int c : row) {
                call("cell", t, c);
            }
        }

        List<Integer> goodRow(int v) {
            return goodRow(v, 0, 1 + to(chance(80) ? 9 : 16));
        }

        List<Integer> goodRow(int v, int sort, int room) {
            int[] least = model.shortest(v);
            List<Integer> row = new ArrayList<>();
            sentence(v, sort, Math.min(16, Math.max(room, least[sort])), least, row);
            return row;
        }

        void spoil(List<Integer> row) {
            for (int i = 1 + to(2); i > 0; i--) {
                int code = one(0, 1, 2, 3, 4, 5, 20, 21, 22, 40, 41, 42);
                int at = row.isEmpty() ? 0 : to(row.size());
                if (row.isEmpty() || chance(33) && row.size() < 16) {
                    row.add(at, code);
                } else if (chance(50)) {
                    row.set(at, code);
                } else {
                    row.remove(at);
                }
            }
        }

        // ---- arguments

        int telling() {
            int v = model.tellings.get(0).isEmpty() ? 1 : model.tellings.get(1).isEmpty() ? 0 : to(2);
            return mostly(chance(3) ? 1 - v : v);
        }

        int form(int v) {
            int n = model.v(v) ? model.tellings.get(v).size() : 3;
            return mostly(n == 0 ? 0 : to(n));
        }

        int text() {
            return mostly(to(4));
        }

        int tree() {
            List<Integer> there = new ArrayList<>();
            for (int t = 0; t < 12; t++) {
                if (model.trees[t] != null) {
                    there.add(t);
                }
            }
            return mostly(there.isEmpty() || chance(2) ? to(12) : there.get(to(there.size())));
        }

        int newTree() {
            return mostly(to(12));
        }

        int nodeOf(int tree) {
            return mostly(model.tree(tree) ? to(model.trees[tree].nodes.size()) : 0);
        }

        int leafOfTree(int tree) {
            boolean some = model.tree(tree) && !model.trees[tree].leaves.isEmpty();
            return mostly(some ? to(model.trees[tree].leaves.size()) : 0);
        }

        int turn() {
            List<Integer> there = new ArrayList<>();
            for (int t = 0; t < 6; t++) {
                if (model.turns[t] != null) {
                    there.add(t);
                }
            }
            return mostly(there.isEmpty() || chance(5) ? to(6) : there.get(to(there.size())));
        }

        int sheet() {
            return mostly(to(4));
        }

        // ---- steps

        void step() {
            int what = to(100);
            if (what < 14) {
                growTree();
            } else if (what < 24) {
                askReader();
            } else if (what < 36) {
                askTree();
            } else if (what < 42) {
                askSetter();
            } else if (what < 50) {
                compare();
            } else if (what < 58) {
                askNames();
            } else if (what < 64) {
                askMeaning();
            } else if (what < 65) {
                if (chance(50)) {
                    growBoth();
                } else {
                    doubled();
                }
            } else if (what < 76) {
                turns();
            } else if (what < 80) {
                carrying();
            } else if (what < 86) {
                sheets();
            } else if (what < 92) {
                decorate();
            } else if (what < 97) {
                texts();
            } else {
                seldom();
            }
        }

        void growTree() {
            int v = telling();
            int t = to(4);
            if (model.v(v) && chance(80)) {
                List<Integer> row = goodRow(v);
                if (chance(25)) {
                    spoil(row);
                }
                fill(t, row);
            }
            int tree = newTree();
            call(chance(75) ? "read" : "mend", v, mostly(t), tree);
            if (model.tree(tree) && chance(15)) {
                for (int l = 0; l < model.trees[tree].leaves.size(); l++) {
                    call("bound", tree, l);
                    call("uses", tree, l);
                    call("rename", tree, l, to(3));
                }
            }
        }

        void askReader() {
            int v = telling();
            int t = text();
            switch (to(8)) {
                case 0:
                    call("readings", v, t);
                    break;
                case 1:
                    call("read", v, t, newTree());
                    break;
                case 2:
                    call("idle", v);
                    break;
                case 3:
                    call("rows", v, mostly(to(6)), mostly(1 + one(0, 1, 2, 2, 3)));
                    break;
                case 4:
                    call("two", v, mostly(1 + one(0, 1, 2, 2, 3)), mostly(to(5) - 1));
                    break;
                case 5:
                    call("price", v, t);
                    break;
                case 6:
                    call("mend", v, t, newTree());
                    break;
                default:
                    call("hint", v, t, mostly(to(2)));
                    break;
            }
        }

        void askTree() {
            int tree = tree();
            switch (to(9)) {
                case 0:
                    call("size", tree, mostly(to(4)));
                    break;
                case 1:
                    call("node", tree, nodeOf(tree), mostly(to(4)));
                    break;
                case 2:
                    call("slot", tree, nodeOf(tree), mostly(to(3)));
                    break;
                case 3:
                    call("leaf", tree, leafOfTree(tree), mostly(to(3)));
                    break;
                case 4:
                case 5:
                    call("spell", tree, mostly(to(12)));
                    break;
                case 6:
                    call("write", tree, text());
                    break;
                case 7:
                    int b = chance(50) ? tree : tree();
                    call("like", tree, nodeOf(tree), b, nodeOf(b));
                    break;
                default:
                    call("keep", newTree(), tree);
                    break;
            }
        }

        void askSetter() {
            int tree = tree();
            int width = mostly(5 + (chance(70) ? to(25) : to(56)));
            switch (to(4)) {
                case 0:
                    call("pin", tree, nodeOf(tree), mostly(to(3)));
                    break;
                case 1:
                    call("lay", tree, width, mostly(to(4)));
                    break;
                case 2:
                    call("lay", tree, width, 2);
                    break;
                default:
                    call("laid", tree, width, mostly(to(14)), mostly(to(2)));
                    break;
            }
        }

        void compare() {
            int a = tree();
            int b = tree();
            switch (to(4)) {
                case 0:
                    call("distance", a, b);
                    break;
                case 1:
                    call("move", a, b, mostly(to(3)));
                    break;
                default:
                    joinVariants(a);
                    break;
            }
        }

        /** Joins trees that differ in few cells, or any three. */
        void joinVariants(int tree) {
            int l = tree();
            int r = tree();
            if (model.tree(tree) && chance(70)) {
                l = 8;
                r = 9;
                vary(tree, l);
                vary(tree, r);
            }
            call("join", tree, l, r, newTree());
        }

        void vary(int tree, int to) {
            int n = call("write", tree, 7);
            for (int i = to(3); i > 0 && n > 0; i--) {
                int at = to(n);
                int code = model.texts.get(7).size() > at ? model.texts.get(7).get(at) : 0;
                call("put", 7, at, code >= 40 ? 40 + to(4) : code >= 20 ? 20 + to(4) : code);
            }
            call("read", model.trees[tree].v, 7, to);
        }

        void askNames() {
            int tree = tree();
            int l = leafOfTree(tree);
            switch (to(6)) {
                case 0:
                    call("bound", tree, l);
                    break;
                case 1:
                    call("uses", tree, l);
                    break;
                case 2:
                    call("rename", tree, l, mostly(to(4)));
                    break;
                case 3:
                    boolean leaf = chance(50);
                    call("kind", tree, leaf ? l : nodeOf(tree), leaf);
                    break;
                default:
                    call("blamed", tree, mostly(to(6) - 1));
                    break;
            }
        }

        void askMeaning() {
            switch (to(4)) {
                case 0:
                    call("world", mostly(to(4)), mostly(to(4)), chance(80) ? to(7) - 3 : random.nextInt());
                    break;
                case 1:
                    call("value");
                    break;
                default:
                    call("run", tree(), mostly(to(4)), mostly(chance(70) ? 1000 : 1 + to(12)));
                    call("value");
                    break;
            }
        }

        void turns() {
            switch (to(12)) {
                case 10:
                    seekByLaws();
                    break;
                case 11:
                    if (chance(40)) {
                        tellLaws();
                    }
                    break;
                case 0:
                    int a = tree();
                    call("show", a, chance(60) ? tree() : a);
                    break;
                case 1:
                    call("find", mostly(to(6)));
                    break;
                case 2:
                    showLikeRows();
                    break;
                case 3:
                    call("turned", turn(), mostly(to(2)), mostly(to(9)));
                    break;
                case 4:
                    call("fits", turn(), tree());
                    break;
                case 5:
                    call("apply", turn(), tree(), newTree());
                    break;
                case 6:
                    call("law", turn(), chance(75));
                    break;
                case 7:
                case 8:
                    call("kept", turn());
                    break;
                default:
                    call("tried", turn());
                    break;
            }
        }

        /** Shows two or three pairs that differ in some cells, the same ones before and after. */
        void showLikeRows() {
            int v = telling();
            if (!model.v(v) || model.tellings.get(v).isEmpty()) {
                return;
            }
            List<Integer> before = goodRow(v);
            List<Integer> after = chance(60) ? new ArrayList<>(before) : goodRow(v);
            List<Integer> leaves = new ArrayList<>();
            for (int i = 0; i < after.size(); i++) {
                if (after.get(i) >= 20) {
                    leaves.add(i);
                }
            }
            if (leaves.size() >= 2 && chance(80)) {
                Collections.swap(after, leaves.get(to(leaves.size())), leaves.get(to(leaves.size())));
            }
            if (leaves.size() >= 2 && chance(20)) {
                after.set(leaves.get(0), after.get(leaves.get(1)));
            }
            call("hide");
            int shift = 1 + to(20);
            int swapped = leaves.isEmpty() || chance(50) ? NONE : after.get(leaves.get(to(leaves.size())));
            for (int k = one(1, 2, 2, 3, 4); k > 0; k--) {
                List<Integer> part = goodRow(v, to(3), 1 + to(5));
                fill(5, changed(before, swapped, part, shift * k));
                fill(6, changed(after, swapped, part, shift * k));
                call("read", v, 5, 10);
                call("read", v, 6, 11);
                call("show", 10, 11);
            }
            int turn = to(6);
            call("find", turn);
            if (chance(60)) {
                call("law", turn, true);
            }
            call("tried", turn);
            for (int t = 0; t < 6; t++) {
                call("kept", t);
            }
        }

        List<Integer> changed(List<Integer> row, int swapped, List<Integer> part, int more) {
            if (swapped == NONE) {
                return moved(row, more);
            }
            List<Integer> other = new ArrayList<>();
            for (int c : row) {
                other.addAll(c == swapped ? part : List.of(c));
            }
            return other.subList(0, Math.min(16, other.size()));
        }

        List<Integer> moved(List<Integer> row, int more) {
            List<Integer> other = new ArrayList<>();
            for (int c : row) {
                other.add(c >= 40 ? 40 + (c - 40 + more) % 100 : c >= 20 ? 20 + (c - 20 + more) % 16 : c);
            }
            return other;
        }

        int rowToTree(int v, int tree, Integer... row) {
            fill(5, List.of(row));
            return call("read", v, 5, tree);
        }

        /** A turn from one row to another one, found from one pair for each set of names. */
        void findFrom(int v, int turn, List<Integer[]> rows) {
            call("hide");
            for (int i = 0; i + 1 < rows.size(); i += 2) {
                rowToTree(v, 10, rows.get(i));
                rowToTree(v, 11, rows.get(i + 1));
                call("show", 10, 11);
            }
            call("find", turn);
        }

        /** Lets each name of a tree become two, again and again, until it is too large. */
        void doubled() {
            int v = telling();
            int tree = tree();
            findFrom(v, 5, List.of(new Integer[] {20}, new Integer[] {2, 20, 20}, new Integer[] {21}, new Integer[] {2, 21, 21}));
            for (int i = 0; i < 5; i++) {
                call("apply", 5, i == 0 ? tree : 9, 9);
            }
            call("fits", 5, 9);
            call("size", 9, to(3));
            call("lay", 9, 5 + to(56), to(4));
            call("blamed", 9, NONE);
            call("run", 9, 0, 1 + to(60));
            call("kept", 5);
        }

        /** Grows one part of a tree in one copy and another part in another one, then joins them. */
        void growBoth() {
            int v = telling();
            rowToTree(v, 7, 2, 20, 21);
            findFrom(v, 3, List.of(new Integer[] {20}, new Integer[] {2, 20, 20}));
            findFrom(v, 4, List.of(new Integer[] {21}, new Integer[] {2, 21, 21}));
            int times = 1 + to(4);
            for (int i = 0; i < times; i++) {
                call("apply", 3, i == 0 ? 7 : 8, 8);
                call("apply", 4, i == 0 ? 7 : 9, 9);
            }
            call("join", 7, 8, 9, newTree());
            call("move", 8, 9, to(3));
            call("distance", 8, 9);
        }

        /** Shows a tree and what laws make of it, and asks how many steps lead there. */
        void seekByLaws() {
            int tree = tree();
            int there = tree;
            for (int i = 1 + to(3); i > 0; i--) {
                call("apply", turn(), there, 10);
                there = 10;
            }
            call("hide");
            call("show", tree, 10);
            int turn = to(6);
            call("find", turn);
            call("kept", turn);
        }

        /** Tells laws of trees that hold any two: the two changed, three put together elsewise. */
        void tellLaws() {
            int v = telling();
            findFrom(v, 0, List.of(new Integer[] {2, 20, 40}, new Integer[] {2, 40, 20}, new Integer[] {2, 21, 20},
                new Integer[] {2, 20, 21}));
            call("law", 0, true);
            if (chance(60)) {
                findFrom(v, 1, List.of(new Integer[] {2, 20, 2, 40, 22}, new Integer[] {2, 2, 20, 40, 22},
                    new Integer[] {2, 21, 2, 20, 40}, new Integer[] {2, 2, 21, 20, 40}));
                call("law", 1, true);
            }
            if (chance(40)) {
                findFrom(v, 2, List.of(new Integer[] {2, 41, 20}, new Integer[] {20}, new Integer[] {2, 41, 2, 40, 40},
                    new Integer[] {2, 40, 40}));
                call("law", 2, true);
            }
            for (int i = to(5); i > 0; i--) {
                List<Integer> row = new ArrayList<>();
                sums(row, 2 + to(4));
                List<Integer> other = new ArrayList<>(row);
                if (chance(50)) {
                    other.clear();
                    sums(other, (row.size() + 1) / 2);
                }
                int at = to(other.size());
                for (int k = 0; k < other.size(); k++) {
                    int m = (k + at) % other.size();
                    if (other.get(m) >= 20 && other.get(k) >= 20) {
                        Collections.swap(other, k, m);
                    }
                }
                call("hide");
                fill(5, row);
                fill(6, other);
                call("read", v, 5, 10);
                call("read", v, 6, 11);
                call("show", 10, 11);
                call("find", 4);
                call("kept", 4);
            }
        }

        /** A row of things put together two by two, by word 2 ahead of them. */
        void sums(List<Integer> row, int things) {
            if (things <= 1) {
                row.add(20 + row.size() % 3);
                return;
            }
            row.add(2);
            int first = 1 + to(things - 1);
            sums(row, first);
            sums(row, things - first);
        }

        void mapAlike() {
            for (int f = 0; f < model.tellings.get(0).size(); f++) {
                int g = f < model.tellings.get(1).size() && chance(70) ? f : to(Math.max(1, model.tellings.get(1).size()));
                int n = model.f(1, g) ? model.tellings.get(1).get(g).slotItems.length : 0;
                List<Integer> slots = new ArrayList<>(List.of(0, 1, 2, 3, 4));
                if (chance(60)) {
                    Collections.shuffle(slots.subList(0, Math.max(1, n)), random);
                }
                call("map", f, g, slots.get(0), slots.get(1), slots.get(2), slots.get(3), slots.get(4));
            }
        }

        void carrying() {
            switch (to(5)) {
                case 0:
                    mapAlike();
                    break;
                case 1:
                    call("map", form(0), form(1), mostly(to(3)), mostly(to(3)), mostly(to(3)), to(5), to(5));
                    break;
                case 2:
                    if (chance(30)) {
                        call("unmap", form(0));
                    }
                    break;
                case 3:
                    call("carry", tree(), newTree());
                    break;
                default:
                    call("left", tree());
                    break;
            }
        }

        void sheets() {
            int s = sheet();
            switch (to(6)) {
                case 0:
                    call("forge", s, mostly(one(0, 0, 1, 2, 3)), mostly(chance(60) ? to(8) : to(42)));
                    break;
                case 1:
                case 2:
                    int v = chance(60) ? one(0, 20, 40, 41, 11, 139) : chance(50) ? one(127, 128, 255, 256, 32768, 65535, -1) : random.nextInt();
                    call("set", s, mostly(to(5)), v);
                    break;
                case 3:
                    call("get", s, mostly(to(5)));
                    break;
                case 4:
                    call("copy", s, mostly(to(5)), chance(50) ? s : sheet(), mostly(to(5)), mostly(to(5)));
                    break;
                default:
                    call("take", text(), s);
                    break;
            }
        }

        void texts() {
            int t = text();
            switch (to(4)) {
                case 0:
                    call("cell", t, mostly(one(0, 1, 2, 11, 20, 35, 40, 139)));
                    break;
                case 1:
                    call("put", t, mostly(to(8)), mostly(one(0, 1, 2, 20, 21, 40, 41)));
                    break;
                case 2:
                    call("at", t, mostly(to(8)));
                    break;
                default:
                    call("wipe", t);
                    break;
            }
        }

        void seldom() {
            int v = telling();
            switch (to(12)) {
                case 0:
                    if (chance(10)) {
                        call("clear", v);
                        if (model.v(v)) {
                            tellForms(v);
                        }
                    }
                    break;
                case 1:
                case 2:
                case 3:
                    call("forms", v, form(v), mostly(to(11)));
                    break;
                case 4:
                    call("strike", tree());
                    break;
                case 5:
                    call("unrule", v, form(v));
                    break;
                case 6:
                    call("hide");
                    break;
                case 7:
                    if (chance(30)) {
                        tellForm(mostly(v), randomForm(4));
                    }
                    break;
                default:
                    call("count", mostly(to(8)));
                    break;
            }
        }
    }
}
