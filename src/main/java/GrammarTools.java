import java.util.Arrays;

/** Small languages told once, and from each telling its tools. The document is DOC.md. */
public final class GrammarTools {
    public static final int NONE = -1, UNKNOWN = -100001, OUTSIDE = -100002, NOT = -100003, FULL = -100004, SPENT = -100005, LARGE = -100006;

    private static final int TELLINGS = 2, TEXTS = 8, CELLS = 16, TREES = 12, NODES = 40;
    private static final int SORTS = 6, WORDS = 12, FORMS = 14, ITEMS = 5, RULES = 6, KINDS = 6, ACTS = 8;
    private static final int NAMES = 16, NUMBERS = 100, WORLDS = 4, MOST_FUEL = 1000;
    private static final int PAIRS = 4, TURNS = 6, HOLES = 16, SHEETS = 4, SHEET_FORMS = 4, SHEET_CELLS = 40;
    /** Codes: words from 0 on, and these. Holes and nodes stand in trees only. */
    private static final int NAME = 20, NUMBER = 40, SORT = 60, HOLE = 200, NODE = 1000;
    /** Items that are no sorts: words, a name, a number, in the order of their codes. */
    private static final int RANKS = WORDS + 2;
    /** A tree of 40 nodes has its first one and at most five pieces in each. */
    private static final int PIECES = 1 + NODES * ITEMS;
    /** No tree is deeper than its nodes are many. */
    private static final int DEPTH = 40;
    private static final int TIGHT = 0, BLANK = 1, SOFT = 2;
    private static final int MISSING = -11, UNLIKE = -12, NO_PLACE = -13, BELOW = -14, NO_CODE = -15;

    private final Telling[] tellings = new Telling[TELLINGS];
    private final int[] cells = new int[TEXTS * CELLS];
    private final int[] sizes = new int[TEXTS];
    private final Tree[] trees = new Tree[TREES];
    private final Tree built = new Tree();
    private final int[] worlds = new int[WORLDS * NAMES];
    private final int[] five = new int[ITEMS];
    private final int[] mapTo = new int[FORMS];
    private final int[] mapSlots = new int[FORMS * ITEMS];
    private final Sheet[] sheets = new Sheet[SHEETS];
    private final Reader reader;
    private final Rows rowsOf = new Rows();
    private final Setter setter;
    private final Comparer comparer = new Comparer();
    private final Binder binder = new Binder();
    private final Judge judge = new Judge();
    private final Runner runner;
    private final Turner turner = new Turner();
    private int latest;

    public GrammarTools() {
        for (int v = 0; v < TELLINGS; v++) {
            tellings[v] = new Telling();
        }
        for (int tree = 0; tree < TREES; tree++) {
            trees[tree] = new Tree();
        }
        for (int s = 0; s < SHEETS; s++) {
            sheets[s] = new Sheet();
        }
        Arrays.fill(mapTo, NONE);
        reader = new Reader(tellings[0]);
        setter = new Setter(tellings[0]);
        runner = new Runner(tellings[0], trees[0]);
    }

    // ---- tellings

    public int length(int v, int word, int n) {
        if (!isTelling(v)) {
            return UNKNOWN;
        }
        if (!isWord(word) || !within(n, 1, 9)) {
            return OUTSIDE;
        }
        return swap(tellings[v].lengths, word, n);
    }

    public int form(int v, int sort, int a, int b, int c, int d, int e) {
        if (!isTelling(v)) {
            return UNKNOWN;
        }
        listFive(a, b, c, d, e);
        int items = countItems();
        if (!within(sort, 0, SORTS - 1) || !areItems(sort, items)) {
            return OUTSIDE;
        }
        if (tellings[v].forms >= FORMS) {
            return FULL;
        }
        return tellings[v].addForm(sort, five, items);
    }

    public int clear(int v) {
        if (!isTelling(v)) {
            return UNKNOWN;
        }
        int had = tellings[v].forms;
        tellings[v].forms = 0;
        for (int tree = 0; tree < TREES; tree++) {
            if (trees[tree].telling == v) {
                trees[tree].there = false;
            }
        }
        turner.forget(v);
        Arrays.fill(mapTo, NONE);
        return had;
    }

    public int forms(int v, int f, int what) {
        if (!isForm(v, f)) {
            return UNKNOWN;
        }
        if (!within(what, 0, 10)) {
            return OUTSIDE;
        }
        Telling told = tellings[v];
        if (within(what, 3, 7)) {
            return what - 3 < told.items[f] ? told.item[f * ITEMS + what - 3] : NONE;
        }
        switch (what) {
            case 0:
                return told.sort[f];
            case 1:
                return told.items[f];
            case 2:
                return told.slots[f];
            case 8:
                return told.act[f];
            case 9:
                return told.isScope[f] ? 1 : 0;
            default:
                return told.ruleCount[f];
        }
    }

    public int gap(int v, int f, int i, int how) {
        if (!isForm(v, f)) {
            return UNKNOWN;
        }
        Telling told = tellings[v];
        if (!within(i, 0, told.items[f] - 2) || !within(how, TIGHT, SOFT)) {
            return OUTSIDE;
        }
        return swap(told.gaps, f * ITEMS + i, how);
    }

    public int name(int v, int f, int i, int how) {
        if (!isForm(v, f)) {
            return UNKNOWN;
        }
        Telling told = tellings[v];
        if (!within(i, 0, told.slots[f] - 1) || !within(how, 0, 2)) {
            return OUTSIDE;
        }
        if (told.slotItem[f * ITEMS + i] != NAME) {
            return NOT;
        }
        return swap(told.naming, f * ITEMS + i, how);
    }

    public int scope(int v, int f, boolean is) {
        if (!isForm(v, f)) {
            return UNKNOWN;
        }
        boolean was = tellings[v].isScope[f];
        tellings[v].isScope[f] = is;
        return was ? 1 : 0;
    }

    public int rule(int v, int f, int i, int what) {
        if (!isForm(v, f)) {
            return UNKNOWN;
        }
        Telling told = tellings[v];
        int slots = told.slots[f];
        boolean ofKind = within(what, 0, KINDS - 1);
        boolean alike = within(what, 10, 9 + slots) && what - 10 != i;
        if (!within(i, NONE, slots - 1) || !(ofKind || alike)) {
            return OUTSIDE;
        }
        if (told.ruleCount[f] >= RULES) {
            return FULL;
        }
        return told.addRule(f, i, what);
    }

    public int unrule(int v, int f) {
        if (!isForm(v, f)) {
            return UNKNOWN;
        }
        return swap(tellings[v].ruleCount, f, 0);
    }

    public int mean(int v, int f, int act) {
        if (!isForm(v, f)) {
            return UNKNOWN;
        }
        if (!within(act, 0, ACTS - 1)) {
            return OUTSIDE;
        }
        return swap(tellings[v].act, f, act);
    }

    public int count(int what) {
        switch (what) {
            case 0:
                return tellings[0].forms;
            case 1:
                return tellings[1].forms;
            case 2:
                return countTrees();
            case 3:
                return turner.pairs;
            case 4:
                return turner.countTurns(false);
            case 5:
                return turner.countTurns(true);
            case 6:
                return countMaps();
            case 7:
                return countSheets();
            default:
                return OUTSIDE;
        }
    }

    // ---- texts

    public int cell(int t, int code) {
        if (!isText(t)) {
            return UNKNOWN;
        }
        if (!isCell(code)) {
            return OUTSIDE;
        }
        if (sizes[t] >= CELLS) {
            return FULL;
        }
        cells[t * CELLS + sizes[t]] = code;
        sizes[t]++;
        return sizes[t];
    }

    public int put(int t, int i, int code) {
        if (!isText(t)) {
            return UNKNOWN;
        }
        if (!within(i, 0, sizes[t] - 1) || !isCell(code)) {
            return OUTSIDE;
        }
        return swap(cells, t * CELLS + i, code);
    }

    public int wipe(int t) {
        if (!isText(t)) {
            return UNKNOWN;
        }
        return swap(sizes, t, 0);
    }

    public int at(int t, int i) {
        if (!isText(t)) {
            return UNKNOWN;
        }
        return within(i, 0, sizes[t] - 1) ? cells[t * CELLS + i] : NONE;
    }

    // ---- the reader

    public int readings(int v, int t) {
        if (!isTelling(v) || !isText(t)) {
            return UNKNOWN;
        }
        reader.open(tellings[v], cells, t * CELLS, sizes[t]);
        return reader.countReadings();
    }

    public int read(int v, int t, int tree) {
        if (!isTelling(v) || !isText(t) || !isTreeNumber(tree)) {
            return UNKNOWN;
        }
        reader.open(tellings[v], cells, t * CELLS, sizes[t]);
        if (reader.leastPrice() != 0) {
            return NOT;
        }
        return growInto(v, tree);
    }

    public int idle(int v) {
        return isTelling(v) ? tellings[v].idleForms() : UNKNOWN;
    }

    public int rows(int v, int sort, int n) {
        if (!isTelling(v)) {
            return UNKNOWN;
        }
        if (!within(sort, 0, SORTS - 1) || !within(n, 1, Rows.LONGEST)) {
            return OUTSIDE;
        }
        if (!rowsOf.gather(tellings[v], n)) {
            return SPENT;
        }
        return rowsOf.howMany(sort, n);
    }

    public int two(int v, int n, int i) {
        if (!isTelling(v)) {
            return UNKNOWN;
        }
        if (!within(n, 1, Rows.LONGEST)) {
            return OUTSIDE;
        }
        if (!rowsOf.gather(tellings[v], n)) {
            return SPENT;
        }
        rowsOf.findTwo(n);
        return i == NONE ? rowsOf.twoCells : rowsOf.twoCode(i);
    }

    public int price(int v, int t) {
        if (!isTelling(v) || !isText(t)) {
            return UNKNOWN;
        }
        reader.open(tellings[v], cells, t * CELLS, sizes[t]);
        int least = reader.leastPrice();
        return least < Reader.ENDLESS ? least : NOT;
    }

    public int mend(int v, int t, int tree) {
        if (!isTelling(v) || !isText(t) || !isTreeNumber(tree)) {
            return UNKNOWN;
        }
        reader.open(tellings[v], cells, t * CELLS, sizes[t]);
        if (reader.leastPrice() >= Reader.ENDLESS) {
            return NOT;
        }
        return growInto(v, tree);
    }

    // ---- trees

    public int size(int tree, int what) {
        if (!isTree(tree)) {
            return UNKNOWN;
        }
        switch (what) {
            case 0:
                return trees[tree].nodes;
            case 1:
                return trees[tree].leaves;
            case 2:
                spellTree(tree);
                return setter.size;
            case 3:
                return trees[tree].telling;
            default:
                return OUTSIDE;
        }
    }

    public int node(int tree, int n, int what) {
        if (!isNode(tree, n)) {
            return UNKNOWN;
        }
        Tree of = trees[tree];
        int p = of.nodeAt[n];
        switch (what) {
            case 0:
                return of.code[p] - NODE;
            case 1:
                return of.up[p] == NONE ? NONE : of.rank[of.up[p]];
            case 2:
                return of.nodesIn(p);
            case 3:
                return of.pins[n];
            default:
                return OUTSIDE;
        }
    }

    public int slot(int tree, int n, int i) {
        if (!isNode(tree, n)) {
            return UNKNOWN;
        }
        Tree of = trees[tree];
        int p = of.nodeAt[n];
        if (!within(i, 0, tellings[of.telling].slots[of.code[p] - NODE] - 1)) {
            return OUTSIDE;
        }
        int child = of.child(p, i);
        return of.isNodeAt(child) ? NODE + of.rank[child] : of.code[child];
    }

    public int leaf(int tree, int l, int what) {
        if (!isLeaf(tree, l)) {
            return UNKNOWN;
        }
        Tree of = trees[tree];
        int p = of.leafAt[l];
        switch (what) {
            case 0:
                return of.code[p];
            case 1:
                return of.up[p] == NONE ? NONE : of.rank[of.up[p]];
            case 2:
                return of.slot[p];
            default:
                return OUTSIDE;
        }
    }

    public int spell(int tree, int i) {
        if (!isTree(tree)) {
            return UNKNOWN;
        }
        spellTree(tree);
        return setter.codeAt(i);
    }

    public int write(int tree, int t) {
        if (!isTree(tree) || !isText(t)) {
            return UNKNOWN;
        }
        spellTree(tree);
        if (setter.size > CELLS) {
            return LARGE;
        }
        System.arraycopy(setter.written, 0, cells, t * CELLS, setter.size);
        sizes[t] = setter.size;
        return sizes[t];
    }

    public int keep(int tree, int from) {
        if (!isTreeNumber(tree) || !isTree(from)) {
            return UNKNOWN;
        }
        trees[tree].become(trees[from]);
        return trees[tree].nodes;
    }

    public int strike(int tree) {
        if (!isTree(tree)) {
            return UNKNOWN;
        }
        trees[tree].there = false;
        return trees[tree].nodes;
    }

    public int like(int a, int n, int b, int m) {
        if (!isNode(a, n) || !isNode(b, m)) {
            return UNKNOWN;
        }
        if (trees[a].telling != trees[b].telling) {
            return 0;
        }
        return Tree.alike(trees[a], trees[a].nodeAt[n], trees[b], trees[b].nodeAt[m]) ? 1 : 0;
    }

    // ---- the setting

    public int pin(int tree, int n, int how) {
        if (!isNode(tree, n)) {
            return UNKNOWN;
        }
        if (!within(how, 0, 2)) {
            return OUTSIDE;
        }
        return swap(trees[tree].pins, n, how);
    }

    public int lay(int tree, int width, int what) {
        if (!isTree(tree)) {
            return UNKNOWN;
        }
        if (!isWidth(width) || !within(what, 0, 3)) {
            return OUTSIDE;
        }
        spellTree(tree);
        setter.choose(width);
        switch (what) {
            case 0:
                return setter.cost;
            case 1:
                return setter.lines;
            case 2:
                return setter.opened;
            default:
                return setter.reach;
        }
    }

    public int laid(int tree, int width, int i, int what) {
        if (!isTree(tree)) {
            return UNKNOWN;
        }
        if (!isWidth(width) || !within(what, 0, 1)) {
            return OUTSIDE;
        }
        spellTree(tree);
        if (!within(i, 0, setter.size - 1)) {
            return NONE;
        }
        setter.choose(width);
        return what == 0 ? setter.line[i] : setter.column[i];
    }

    // ---- comparing, joining

    public int distance(int a, int b) {
        if (!isTree(a) || !isTree(b)) {
            return UNKNOWN;
        }
        return comparer.measure(trees[a], trees[b]);
    }

    public int move(int a, int b, int what) {
        if (!isTree(a) || !isTree(b)) {
            return UNKNOWN;
        }
        if (!within(what, 0, 2)) {
            return OUTSIDE;
        }
        comparer.findMove(trees[a], trees[b]);
        if (what == 2) {
            return comparer.moved;
        }
        return what == 0 ? comparer.movedFrom : comparer.movedTo;
    }

    public int join(int b, int l, int r, int to) {
        if (!isTree(b) || !isTree(l) || !isTree(r) || !isTreeNumber(to)) {
            return UNKNOWN;
        }
        int v = trees[b].telling;
        if (trees[l].telling != v || trees[r].telling != v) {
            return NOT;
        }
        int clashes = Comparer.merge(trees[b], trees[l], trees[r], built);
        if (clashes == LARGE) {
            return LARGE;
        }
        built.index(tellings[v].slots);
        trees[to].become(built);
        return clashes;
    }

    // ---- names

    public int bound(int tree, int l) {
        if (!isLeaf(tree, l)) {
            return UNKNOWN;
        }
        bindTree(trees[tree]);
        return binder.isUse(l) ? binder.boundTo[l] : NOT;
    }

    public int uses(int tree, int l) {
        if (!isLeaf(tree, l)) {
            return UNKNOWN;
        }
        bindTree(trees[tree]);
        return binder.isTell(l) ? binder.countUses(l) : NOT;
    }

    public int rename(int tree, int l, int to) {
        if (!isLeaf(tree, l)) {
            return UNKNOWN;
        }
        if (!within(to, 0, NAMES - 1)) {
            return OUTSIDE;
        }
        bindTree(trees[tree]);
        if (!binder.isTell(l)) {
            return NOT;
        }
        int was = trees[tree].code[trees[tree].leafAt[l]];
        binder.remember();
        binder.spread(trees[tree], l, NAME + to);
        bindTree(trees[tree]);
        int caught = binder.firstCaught();
        if (caught == NONE) {
            return 1;
        }
        binder.spread(trees[tree], l, was);
        return -200 - caught;
    }

    // ---- kinds

    public int kind(int tree, int k, boolean leaf) {
        if (leaf ? !isLeaf(tree, k) : !isNode(tree, k)) {
            return UNKNOWN;
        }
        holdRules(trees[tree]);
        judge.holdAll();
        return judge.kindOf(leaf ? trees[tree].leafAt[k] : trees[tree].nodeAt[k]);
    }

    public int blamed(int tree, int i) {
        if (!isTree(tree)) {
            return UNKNOWN;
        }
        holdRules(trees[tree]);
        judge.blame();
        return i == NONE ? judge.blames : judge.blameCode(i);
    }

    // ---- meaning

    public int world(int w, int name, int v) {
        if (!isWorld(w)) {
            return UNKNOWN;
        }
        if (!within(name, 0, NAMES - 1)) {
            return OUTSIDE;
        }
        return swap(worlds, w * NAMES + name, v);
    }

    public int run(int tree, int w, int fuel) {
        if (!isTree(tree) || !isWorld(w)) {
            return UNKNOWN;
        }
        if (!within(fuel, 1, MOST_FUEL)) {
            return OUTSIDE;
        }
        runner.enter(worlds, w);
        int worked = runner.work(tellings[trees[tree].telling], trees[tree], fuel);
        if (runner.spent) {
            return SPENT;
        }
        latest = worked;
        return runner.used;
    }

    public int value() {
        return latest;
    }

    // ---- turns

    public int show(int before, int after) {
        if (!isTree(before) || !isTree(after)) {
            return UNKNOWN;
        }
        int v = trees[before].telling;
        if (trees[after].telling != v || (turner.pairs > 0 && turner.pairTelling != v)) {
            return NOT;
        }
        if (turner.pairs >= PAIRS) {
            return FULL;
        }
        return turner.addPair(trees[before], trees[after]);
    }

    public int hide() {
        int had = turner.pairs;
        turner.pairs = 0;
        return had;
    }

    public int find(int turn) {
        if (!isTurnNumber(turn)) {
            return UNKNOWN;
        }
        if (turner.pairs == 0) {
            return NOT;
        }
        return turner.layOver(turn, tellings[turner.pairTelling].slots);
    }

    public int turned(int turn, int side, int i) {
        if (!isTurn(turn)) {
            return UNKNOWN;
        }
        if (!within(side, 0, 1)) {
            return OUTSIDE;
        }
        Tree of = turner.side(turn, side);
        setter.spellOut(tellings[of.telling], of);
        return setter.codeAt(i);
    }

    public int fits(int turn, int tree) {
        if (!isTurn(turn) || !isTree(tree)) {
            return UNKNOWN;
        }
        Tree pattern = turner.side(turn, 0);
        if (pattern.telling != trees[tree].telling) {
            return 0;
        }
        return turner.countFits(tellings[pattern.telling], pattern, trees[tree]);
    }

    public int apply(int turn, int tree, int to) {
        if (!isTurn(turn) || !isTree(tree) || !isTreeNumber(to)) {
            return UNKNOWN;
        }
        Tree from = trees[tree];
        if (turner.side(turn, 0).telling != from.telling) {
            return NOT;
        }
        Telling told = tellings[from.telling];
        int places = turner.putIn(told, turn, from, built);
        if (places == LARGE) {
            return LARGE;
        }
        built.index(told.slots);
        trees[to].become(built);
        return places;
    }

    public int law(int turn, boolean is) {
        if (!isTurn(turn)) {
            return UNKNOWN;
        }
        boolean was = turner.isLaw[turn];
        turner.isLaw[turn] = is;
        return was ? 1 : 0;
    }

    public int kept(int turn) {
        if (!isTurn(turn)) {
            return UNKNOWN;
        }
        return turner.seek(tellings[turner.side(turn, 0).telling], turn);
    }

    public int tried(int turn) {
        if (!isTurn(turn)) {
            return UNKNOWN;
        }
        Tree before = turner.side(turn, 0);
        Tree after = turner.side(turn, 1);
        Telling told = tellings[before.telling];
        boolean one = true;
        for (int w = 0; w < WORLDS; w++) {
            runner.enter(worlds, w);
            int first = runner.work(told, before, MOST_FUEL);
            boolean spent = runner.spent;
            int second = runner.work(told, after, MOST_FUEL);
            if (spent || runner.spent) {
                return SPENT;
            }
            one = one && first == second;
        }
        return one ? 1 : 0;
    }

    // ---- carrying

    public int map(int f, int g, int a, int b, int c, int d, int e) {
        if (!isForm(0, f) || !isForm(1, g)) {
            return UNKNOWN;
        }
        listFive(a, b, c, d, e);
        if (!areSlots(f, g)) {
            return OUTSIDE;
        }
        mapTo[f] = g;
        System.arraycopy(five, 0, mapSlots, f * ITEMS, ITEMS);
        return countMaps();
    }

    public int unmap(int f) {
        if (!isForm(0, f)) {
            return UNKNOWN;
        }
        return swap(mapTo, f, NONE) == NONE ? 0 : 1;
    }

    public int carry(int tree, int to) {
        if (!isTree(tree) || !isTreeNumber(to)) {
            return UNKNOWN;
        }
        Tree from = trees[tree];
        if (from.telling != 0 || firstUnmapped(from) != NONE) {
            return NOT;
        }
        built.start(1);
        if (!carryPiece(from, 0, SORT, 0)) {
            return NOT;
        }
        built.index(tellings[1].slots);
        trees[to].become(built);
        return trees[to].nodes;
    }

    public int left(int tree) {
        if (!isTree(tree)) {
            return UNKNOWN;
        }
        return trees[tree].telling == 0 ? firstUnmapped(trees[tree]) : NOT;
    }

    // ---- the teacher, sheets

    public int hint(int v, int t, int what) {
        if (!isTelling(v) || !isText(t)) {
            return UNKNOWN;
        }
        if (!within(what, 0, 1)) {
            return OUTSIDE;
        }
        reader.open(tellings[v], cells, t * CELLS, sizes[t]);
        int readings = reader.countReadings();
        if (readings != 1) {
            return what == 1 ? NONE : readings == 0 ? 1 : 2;
        }
        reader.leastPrice();
        if (!reader.growTree(built, v)) {
            return LARGE;
        }
        bindTree(built);
        int unbound = binder.firstUnbound();
        if (unbound != NONE) {
            return what == 0 ? 3 : unbound;
        }
        judge.hold(tellings[v], built, binder);
        judge.blame();
        if (judge.blames > 0) {
            return what == 0 ? 4 : judge.blameCode(0);
        }
        return what == 0 ? 0 : NONE;
    }

    public int forge(int s, int form, int n) {
        if (!isSheet(s)) {
            return UNKNOWN;
        }
        if (!within(form, 0, SHEET_FORMS - 1) || n > SHEET_CELLS) {
            return OUTSIDE;
        }
        if (n < 0) {
            return BELOW;
        }
        return sheets[s].make(form, n);
    }

    public int set(int s, int i, int v) {
        if (!isSheet(s)) {
            return UNKNOWN;
        }
        if (!sheets[s].there) {
            return MISSING;
        }
        if (!within(i, 0, sheets[s].size - 1)) {
            return NO_PLACE;
        }
        return sheets[s].store(i, v);
    }

    public int get(int s, int i) {
        if (!isSheet(s)) {
            return UNKNOWN;
        }
        if (!sheets[s].there) {
            return MISSING;
        }
        return within(i, 0, sheets[s].size - 1) ? sheets[s].row[i] : NO_PLACE;
    }

    public int copy(int s, int i, int r, int j, int n) {
        if (!isSheet(s) || !isSheet(r)) {
            return UNKNOWN;
        }
        Sheet from = sheets[s];
        Sheet to = sheets[r];
        if (!from.there || !to.there) {
            return MISSING;
        }
        if (from.form != to.form) {
            return UNLIKE;
        }
        if (n < 0 || !within(i, 0, from.size - n) || !within(j, 0, to.size - n)) {
            return NO_PLACE;
        }
        System.arraycopy(from.row, i, to.row, j, n);
        return 1;
    }

    public int take(int t, int s) {
        if (!isText(t) || !isSheet(s)) {
            return UNKNOWN;
        }
        Sheet from = sheets[s];
        if (!from.there) {
            return MISSING;
        }
        if (from.size > CELLS) {
            return FULL;
        }
        for (int i = 0; i < from.size; i++) {
            if (!isCell(from.row[i])) {
                return NO_CODE;
            }
        }
        System.arraycopy(from.row, 0, cells, t * CELLS, from.size);
        sizes[t] = from.size;
        return sizes[t];
    }

    // ---- what there is

    private static boolean within(int x, int low, int high) {
        return x >= low && x <= high;
    }

    private static boolean isTelling(int v) {
        return within(v, 0, TELLINGS - 1);
    }

    private static boolean isText(int t) {
        return within(t, 0, TEXTS - 1);
    }

    private static boolean isTreeNumber(int tree) {
        return within(tree, 0, TREES - 1);
    }

    private static boolean isTurnNumber(int turn) {
        return within(turn, 0, TURNS - 1);
    }

    private static boolean isWorld(int w) {
        return within(w, 0, WORLDS - 1);
    }

    private static boolean isSheet(int s) {
        return within(s, 0, SHEETS - 1);
    }

    private static boolean isWidth(int width) {
        return within(width, 5, 60);
    }

    private boolean isForm(int v, int f) {
        return isTelling(v) && within(f, 0, tellings[v].forms - 1);
    }

    private boolean isTree(int tree) {
        return isTreeNumber(tree) && trees[tree].there;
    }

    private boolean isNode(int tree, int n) {
        return isTree(tree) && within(n, 0, trees[tree].nodes - 1);
    }

    private boolean isLeaf(int tree, int l) {
        return isTree(tree) && within(l, 0, trees[tree].leaves - 1);
    }

    private boolean isTurn(int turn) {
        return isTurnNumber(turn) && turner.there[turn];
    }

    // ---- codes

    private static boolean isWord(int code) {
        return within(code, 0, WORDS - 1);
    }

    private static boolean isName(int code) {
        return within(code, NAME, NAME + NAMES - 1);
    }

    private static boolean isNumber(int code) {
        return within(code, NUMBER, NUMBER + NUMBERS - 1);
    }

    private static boolean isCell(int code) {
        return isWord(code) || isName(code) || isNumber(code);
    }

    private static boolean isSort(int item) {
        return within(item, SORT, SORT + SORTS - 1);
    }

    private static boolean isItem(int code) {
        return isWord(code) || code == NAME || code == NUMBER || isSort(code);
    }

    private static boolean isHole(int code) {
        return code >= HOLE && code < HOLE + HOLES;
    }

    /** Whether a cell fits an item that is no sort. */
    private static boolean suits(int item, int code) {
        if (item == NAME) {
            return isName(code);
        }
        return item == NUMBER ? isNumber(code) : item == code;
    }

    private static int rankOfItem(int item) {
        if (item == NAME) {
            return WORDS;
        }
        return item == NUMBER ? WORDS + 1 : item;
    }

    private static int itemOfRank(int rank) {
        if (rank < WORDS) {
            return rank;
        }
        return rank == WORDS ? NAME : NUMBER;
    }

    // ---- smaller steps

    private static int swap(int[] row, int i, int x) {
        int was = row[i];
        row[i] = x;
        return was;
    }

    private void listFive(int a, int b, int c, int d, int e) {
        five[0] = a;
        five[1] = b;
        five[2] = c;
        five[3] = d;
        five[4] = e;
    }

    private int countItems() {
        int items = 0;
        while (items < ITEMS && five[items] != NONE) {
            items++;
        }
        return items;
    }

    private boolean areItems(int sort, int items) {
        for (int k = 0; k < items; k++) {
            if (!isItem(five[k])) {
                return false;
            }
        }
        // a form that is one sort alone must lead to a greater one, so that no row has endless readings
        boolean alone = items == 1 && isSort(five[0]);
        return items > 0 && !(alone && five[0] - SORT <= sort);
    }

    private int countTrees() {
        int many = 0;
        for (int tree = 0; tree < TREES; tree++) {
            many += trees[tree].there ? 1 : 0;
        }
        return many;
    }

    private int countMaps() {
        int many = 0;
        for (int f = 0; f < FORMS; f++) {
            many += mapTo[f] == NONE ? 0 : 1;
        }
        return many;
    }

    private int countSheets() {
        int many = 0;
        for (int s = 0; s < SHEETS; s++) {
            many += sheets[s].there ? 1 : 0;
        }
        return many;
    }

    private int growInto(int v, int tree) {
        if (!reader.growTree(built, v)) {
            return LARGE;
        }
        trees[tree].become(built);
        return trees[tree].nodes;
    }

    private void spellTree(int tree) {
        setter.spellOut(tellings[trees[tree].telling], trees[tree]);
    }

    private void bindTree(Tree tree) {
        binder.bind(tellings[tree.telling], tree);
    }

    private void holdRules(Tree tree) {
        bindTree(tree);
        judge.hold(tellings[tree.telling], tree, binder);
    }

    /** Whether the slots in five, one for each slot of g, are slots of f of like sorts, each once. */
    private boolean areSlots(int f, int g) {
        Telling from = tellings[0];
        Telling to = tellings[1];
        int seen = 0;
        for (int i = 0; i < to.slots[g]; i++) {
            int s = five[i];
            if (!within(s, 0, from.slots[f] - 1) || (seen >> s & 1) == 1) {
                return false;
            }
            seen |= 1 << s;
            int given = from.slotItem[f * ITEMS + s];
            int wanted = to.slotItem[g * ITEMS + i];
            boolean bothSorts = isSort(given) && isSort(wanted);
            if (given != wanted && !bothSorts) {
                return false;
            }
        }
        return true;
    }

    private int firstUnmapped(Tree tree) {
        for (int n = 0; n < tree.nodes; n++) {
            int f = tree.code[tree.nodeAt[n]] - NODE;
            if (mapTo[f] == NONE) {
                return n;
            }
        }
        return NONE;
    }

    /** Carries a piece that is to stand in the place of an item; false if it does not stand there. */
    private boolean carryPiece(Tree from, int p, int item, int depth) {
        if (!from.isNodeAt(p)) {
            return built.add(from.code[p]);
        }
        int f = from.code[p] - NODE;
        int g = mapTo[f];
        if (depth > DEPTH || g == NONE || tellings[1].sort[g] != item - SORT || !built.add(NODE + g)) {
            return false;
        }
        boolean stands = true;
        for (int i = 0; i < tellings[1].slots[g] && stands; i++) {
            int child = from.child(p, mapSlots[f * ITEMS + i]);
            stands = carryPiece(from, child, tellings[1].slotItem[g * ITEMS + i], depth + 1);
        }
        return stands;
    }

    /** One small language: the lengths of its words, and its forms. */
    private static final class Telling {
        final int[] lengths = new int[WORDS];
        int forms;
        final int[] sort = new int[FORMS];
        final int[] items = new int[FORMS];
        final int[] item = new int[FORMS * ITEMS];
        final int[] slots = new int[FORMS];
        final int[] slotItem = new int[FORMS * ITEMS];
        final int[] gaps = new int[FORMS * ITEMS];
        final int[] naming = new int[FORMS * ITEMS];
        final int[] act = new int[FORMS];
        final boolean[] isScope = new boolean[FORMS];
        final int[] ruleCount = new int[FORMS];
        final int[] ruleSlot = new int[FORMS * RULES];
        final int[] ruleWhat = new int[FORMS * RULES];

        Telling() {
            Arrays.fill(lengths, 3);
        }

        int addForm(int ofSort, int[] codes, int n) {
            int f = forms;
            sort[f] = ofSort;
            items[f] = n;
            slots[f] = 0;
            act[f] = 0;
            isScope[f] = false;
            ruleCount[f] = 0;
            for (int k = 0; k < n; k++) {
                item[f * ITEMS + k] = codes[k];
                gaps[f * ITEMS + k] = BLANK;
                naming[f * ITEMS + k] = 0;
                if (!isWord(codes[k])) {
                    slotItem[f * ITEMS + slots[f]] = codes[k];
                    slots[f]++;
                }
            }
            forms++;
            return f;
        }

        int addRule(int f, int i, int what) {
            ruleSlot[f * RULES + ruleCount[f]] = i;
            ruleWhat[f * RULES + ruleCount[f]] = what;
            ruleCount[f]++;
            return ruleCount[f];
        }

        boolean hasSoftGap(int f) {
            for (int k = 0; k < items[f] - 1; k++) {
                if (gaps[f * ITEMS + k] == SOFT) {
                    return true;
                }
            }
            return false;
        }

        /** Forms that no reading as sort 0 has: they do not end, or nothing leads to them. */
        int idleForms() {
            int able = ableSorts();
            int reached = reachedSorts(able);
            int idle = 0;
            for (int f = 0; f < forms; f++) {
                boolean used = (reached >> sort[f] & 1) == 1 && sortsWithin(f, able);
                idle |= used ? 0 : 1 << f;
            }
            return idle;
        }

        /** Sorts as which some row of cells has a reading. */
        private int ableSorts() {
            int able = 0;
            for (int round = 0; round < SORTS; round++) {
                for (int f = 0; f < forms; f++) {
                    able |= sortsWithin(f, able) ? 1 << sort[f] : 0;
                }
            }
            return able;
        }

        private int reachedSorts(int able) {
            int reached = 1;
            for (int round = 0; round < SORTS; round++) {
                for (int f = 0; f < forms; f++) {
                    boolean used = (reached >> sort[f] & 1) == 1 && sortsWithin(f, able);
                    reached |= used ? sortsIn(f) : 0;
                }
            }
            return reached;
        }

        private boolean sortsWithin(int f, int able) {
            return (sortsIn(f) & ~able) == 0;
        }

        private int sortsIn(int f) {
            int sorts = 0;
            for (int k = 0; k < items[f]; k++) {
                int code = item[f * ITEMS + k];
                sorts |= isSort(code) ? 1 << code - SORT : 0;
            }
            return sorts;
        }
    }

    /** A tree as the row of its pieces: each node ahead of what is in it, from the left. */
    private static final class Tree {
        boolean there;
        int telling;
        int count;
        int nodes;
        int leaves;
        final int[] code = new int[PIECES];
        /** The place behind the last piece that is in a piece. */
        final int[] end = new int[PIECES];
        final int[] up = new int[PIECES];
        final int[] slot = new int[PIECES];
        final int[] lack = new int[PIECES];
        final int[] rank = new int[PIECES];
        final int[] nodeAt = new int[NODES];
        final int[] leafAt = new int[PIECES];
        final int[] pins = new int[NODES];

        void start(int v) {
            telling = v;
            count = 0;
            nodes = 0;
        }

        /** A piece more at the end; false if the tree is too large for it. */
        boolean add(int piece) {
            boolean isNode = piece >= NODE;
            if (count >= PIECES || (isNode && nodes >= NODES)) {
                return false;
            }
            code[count] = piece;
            count++;
            nodes += isNode ? 1 : 0;
            return true;
        }

        boolean addAll(Tree from, int p) {
            return addRange(from, p, from.end[p]);
        }

        boolean addRange(Tree from, int first, int behind) {
            int more = 0;
            for (int p = first; p < behind; p++) {
                more += from.isNodeAt(p) ? 1 : 0;
            }
            int pieces = behind - first;
            if (nodes + more > NODES || count + pieces > PIECES) {
                return false;
            }
            System.arraycopy(from.code, first, code, count, pieces);
            count += pieces;
            nodes += more;
            return true;
        }

        /** Finds how the added pieces lie in one another; slots tells how many each form has. */
        void index(int[] slots) {
            int open = NONE;
            nodes = 0;
            leaves = 0;
            for (int p = 0; p < count; p++) {
                up[p] = open;
                slot[p] = 0;
                if (open != NONE) {
                    slot[p] = slots[code[open] - NODE] - lack[open];
                    lack[open]--;
                }
                end[p] = p + 1;
                if (isNodeAt(p)) {
                    nodeAt[nodes] = p;
                    rank[p] = nodes;
                    nodes++;
                    lack[p] = slots[code[p] - NODE];
                    open = p;
                } else {
                    leafAt[leaves] = p;
                    rank[p] = leaves;
                    leaves++;
                }
                open = closeFull(open, p + 1);
            }
        }

        private int closeFull(int open, int behind) {
            int p = open;
            for (int step = 0; step < PIECES && p != NONE && lack[p] == 0; step++) {
                end[p] = behind;
                p = up[p];
            }
            return p;
        }

        void become(Tree other) {
            there = true;
            telling = other.telling;
            count = other.count;
            nodes = other.nodes;
            leaves = other.leaves;
            System.arraycopy(other.code, 0, code, 0, count);
            System.arraycopy(other.end, 0, end, 0, count);
            System.arraycopy(other.up, 0, up, 0, count);
            System.arraycopy(other.slot, 0, slot, 0, count);
            System.arraycopy(other.rank, 0, rank, 0, count);
            System.arraycopy(other.nodeAt, 0, nodeAt, 0, nodes);
            System.arraycopy(other.leafAt, 0, leafAt, 0, leaves);
            Arrays.fill(pins, 0);
        }

        boolean isNodeAt(int p) {
            return code[p] >= NODE;
        }

        int child(int p, int i) {
            int c = p + 1;
            for (int s = 0; s < i && c < count; s++) {
                c = end[c];
            }
            return c;
        }

        int nodesIn(int p) {
            int many = 0;
            for (int q = p; q < end[p]; q++) {
                many += isNodeAt(q) ? 1 : 0;
            }
            return many;
        }

        /** Rows of pieces tell what is in what, so like rows are like pieces. */
        static boolean alike(Tree a, int p, Tree b, int q) {
            int n = a.end[p] - p;
            if (b.end[q] - q != n) {
                return false;
            }
            for (int i = 0; i < n; i++) {
                if (a.code[p + i] != b.code[q + i]) {
                    return false;
                }
            }
            return true;
        }
    }

    /** Counts the readings of a text, prices it, and grows the tree of its least price. */
    private static final class Reader {
        static final int ENDLESS = 1 << 24;
        private static final int MANY = 1000;
        private static final int EDGES = CELLS + 1;
        private static final int SPANS = EDGES * EDGES;
        /** Forms of one sort alone lead upwards, so that no chain on one part is longer than this. */
        private static final int ROUNDS = 20;

        private int size;
        private Telling told;
        private final int[] text = new int[CELLS];
        private final int[] ways = new int[SORTS * SPANS];
        private final int[] waysRest = new int[FORMS * ITEMS * SPANS];
        private final int[] least = new int[SORTS * SPANS];
        private final int[] leastRest = new int[FORMS * ITEMS * SPANS];
        private final int[] nextFit = new int[RANKS * EDGES];

        Reader(Telling first) {
            told = first;
        }

        void open(Telling by, int[] row, int from, int n) {
            told = by;
            size = n;
            System.arraycopy(row, from, text, 0, n);
        }

        /** Where what is told of the x-th sort or item and the cells from .. to - 1 stands. */
        private static int spot(int x, int from, int to) {
            return x * SPANS + from * EDGES + to;
        }

        int countReadings() {
            for (int to = 1; to <= size; to++) {
                for (int from = to - 1; from >= 0; from--) {
                    // greater sorts first, for a form that is one sort alone leads to a greater one
                    for (int sort = SORTS - 1; sort >= 0; sort--) {
                        ways[spot(sort, from, to)] = waysOfSort(sort, from, to);
                    }
                    countRests(from, to);
                }
            }
            return size == 0 ? 0 : ways[spot(0, 0, size)];
        }

        private int waysOfSort(int sort, int from, int to) {
            int sum = 0;
            for (int f = 0; f < told.forms; f++) {
                if (told.sort[f] == sort) {
                    sum += waysFrom(f, 0, from, to);
                }
            }
            return Math.min(sum, MANY);
        }

        private void countRests(int from, int to) {
            for (int f = 0; f < told.forms; f++) {
                for (int k = 1; k < told.items[f]; k++) {
                    waysRest[spot(f * ITEMS + k, from, to)] = waysFrom(f, k, from, to);
                }
            }
        }

        /** In how many ways the items from the k-th one on read the cells from .. to - 1. */
        private int waysFrom(int f, int k, int from, int to) {
            int item = told.item[f * ITEMS + k];
            if (!isSort(item)) {
                return suits(item, text[from]) ? waysBehind(f, k + 1, from + 1, to) : 0;
            }
            int sum = 0;
            for (int mid = from + 1; mid <= to && sum < MANY; mid++) {
                sum += ways[spot(item - SORT, from, mid)] * waysBehind(f, k + 1, mid, to);
            }
            return Math.min(sum, MANY);
        }

        private int waysBehind(int f, int k, int from, int to) {
            if (k >= told.items[f]) {
                return from == to ? 1 : 0;
            }
            return from < to ? waysRest[spot(f * ITEMS + k, from, to)] : 0;
        }

        /** The price of the text as sort 0; endless if no row of cells has a reading. */
        int leastPrice() {
            findFits();
            for (int to = 0; to <= size; to++) {
                for (int from = to; from >= 0; from--) {
                    settle(from, to);
                }
            }
            return least[spot(0, 0, size)];
        }

        private void findFits() {
            for (int rank = 0; rank < RANKS; rank++) {
                int next = CELLS;
                nextFit[rank * EDGES + size] = next;
                for (int from = size - 1; from >= 0; from--) {
                    next = suits(itemOfRank(rank), text[from]) ? from : next;
                    nextFit[rank * EDGES + from] = next;
                }
            }
        }

        private void settle(int from, int to) {
            for (int sort = 0; sort < SORTS; sort++) {
                least[spot(sort, from, to)] = ENDLESS;
            }
            for (int place = 0; place < told.forms * ITEMS; place++) {
                leastRest[spot(place, from, to)] = ENDLESS;
            }
            boolean changed = true;
            for (int round = 0; round < ROUNDS && changed; round++) {
                changed = false;
                for (int sort = SORTS - 1; sort >= 0; sort--) {
                    changed |= settleSort(sort, from, to);
                }
            }
        }

        private boolean settleSort(int sort, int from, int to) {
            boolean changed = false;
            int of = spot(sort, from, to);
            for (int f = 0; f < told.forms; f++) {
                for (int k = told.items[f] - 1; k >= 0 && told.sort[f] == sort; k--) {
                    int price = priceFrom(f, k, from, to);
                    int rest = spot(f * ITEMS + k, from, to);
                    changed |= price < leastRest[rest];
                    leastRest[rest] = Math.min(leastRest[rest], price);
                }
                if (told.sort[f] == sort) {
                    least[of] = Math.min(least[of], leastRest[spot(f * ITEMS, from, to)]);
                }
            }
            return changed;
        }

        /** The least price of the items from the k-th one on for the cells from .. to - 1. */
        private int priceFrom(int f, int k, int from, int to) {
            int item = told.item[f * ITEMS + k];
            int price = ENDLESS;
            for (int mid = from; mid <= to; mid++) {
                price = Math.min(price, priceOfItem(item, from, mid) + priceBehind(f, k + 1, mid, to));
            }
            return price;
        }

        private int priceBehind(int f, int k, int from, int to) {
            if (k >= told.items[f]) {
                return from == to ? 0 : ENDLESS;
            }
            return leastRest[spot(f * ITEMS + k, from, to)];
        }

        private int priceOfItem(int item, int from, int to) {
            if (item >= SORT) {
                return least[spot(item - SORT, from, to)];
            }
            boolean found = nextFit[rankOfItem(item) * EDGES + from] < to;
            return found ? to - from - 1 : Math.max(to - from, 1);
        }

        /** Makes the tree of telling v that has the least price, once it is told; false if it is too large. */
        boolean growTree(Tree out, int v) {
            out.start(v);
            if (!grow(out, 0, 0, size, 0)) {
                return false;
            }
            out.index(told.slots);
            return true;
        }

        private boolean grow(Tree out, int sort, int from, int to, int depth) {
            int f = firstForm(sort, from, to);
            if (depth > DEPTH || f == NONE || !out.add(NODE + f)) {
                return false;
            }
            int first = from;
            boolean fine = true;
            for (int k = 0; k < told.items[f] && fine; k++) {
                int mid = firstCut(f, k, first, to);
                fine = growItem(out, told.item[f * ITEMS + k], first, mid, depth + 1);
                first = mid;
            }
            return fine;
        }

        private boolean growItem(Tree out, int item, int from, int to, int depth) {
            if (isSort(item)) {
                return grow(out, item - SORT, from, to, depth);
            }
            if (isWord(item)) {
                return true;
            }
            int fit = nextFit[rankOfItem(item) * EDGES + from];
            return out.add(fit < to ? text[fit] : item);
        }

        private int firstForm(int sort, int from, int to) {
            int price = least[spot(sort, from, to)];
            for (int f = 0; f < told.forms && price < ENDLESS; f++) {
                if (told.sort[f] == sort && leastRest[spot(f * ITEMS, from, to)] == price) {
                    return f;
                }
            }
            return NONE;
        }

        private int firstCut(int f, int k, int from, int to) {
            int item = told.item[f * ITEMS + k];
            int price = leastRest[spot(f * ITEMS + k, from, to)];
            for (int mid = from; mid < to; mid++) {
                if (priceOfItem(item, from, mid) + priceBehind(f, k + 1, mid, to) == price) {
                    return mid;
                }
            }
            return to;
        }
    }

    /** Rows of each sort with few cells, each as a number whose digits are its codes, in their order. */
    private static final class Rows {
        static final int LONGEST = 4;
        private static final int MOST = 100;

        int twoCells;
        private int twoRow;
        private boolean spent;
        private final int[] row = new int[SORTS * LONGEST * MOST];
        /** Readings of a row: 1, or 2 also for more. */
        private final int[] weight = new int[SORTS * LONGEST * MOST];
        private final int[] many = new int[SORTS * LONGEST];
        /** Of each part of the row that is put together: its cells, and how many rows it may be. */
        private final int[] partCells = new int[ITEMS];
        private final int[] partRows = new int[ITEMS];

        /** Finds all rows of 1 to n cells; false if they are too many. */
        boolean gather(Telling told, int n) {
            spent = false;
            for (int m = 1; m <= n && !spent; m++) {
                for (int sort = SORTS - 1; sort >= 0 && !spent; sort--) {
                    gatherSort(told, sort, m);
                }
            }
            return !spent;
        }

        int howMany(int sort, int n) {
            return many[shelf(sort, n)];
        }

        void findTwo(int n) {
            twoCells = 0;
            twoRow = 0;
            for (int m = 1; m <= n && twoCells == 0; m++) {
                int of = shelf(0, m);
                for (int i = 0; i < many[of] && twoCells == 0; i++) {
                    if (weight[of * MOST + i] >= 2) {
                        twoCells = m;
                        twoRow = row[of * MOST + i];
                    }
                }
            }
        }

        int twoCode(int i) {
            if (!within(i, 0, twoCells - 1)) {
                return NONE;
            }
            int rest = twoRow;
            for (int k = twoCells - 1; k > i; k--) {
                rest /= RANKS;
            }
            return itemOfRank(rest % RANKS);
        }

        private static int shelf(int sort, int m) {
            return sort * LONGEST + m - 1;
        }

        private void gatherSort(Telling told, int sort, int m) {
            many[shelf(sort, m)] = 0;
            for (int f = 0; f < told.forms; f++) {
                for (int cuts = 0; cuts < 1 << m - 1 && !spent; cuts++) {
                    if (told.sort[f] == sort && Integer.bitCount(cuts) == told.items[f] - 1) {
                        combine(told, f, m, cuts);
                    }
                }
            }
        }

        /** Puts together the rows of a form with m cells that are cut behind cell k for each bit k. */
        private void combine(Telling told, int f, int m, int cuts) {
            int all = 1;
            int k = 0;
            int cellsOfPart = 0;
            for (int c = 0; c < m; c++) {
                cellsOfPart++;
                if (c == m - 1 || (cuts >> c & 1) == 1) {
                    partCells[k] = cellsOfPart;
                    partRows[k] = rowsOfPart(told.item[f * ITEMS + k], cellsOfPart);
                    all = Math.min(all * partRows[k], MOST + 1);
                    k++;
                    cellsOfPart = 0;
                }
            }
            spent = spent || all > MOST;
            for (int choice = 0; choice < all && !spent; choice++) {
                addChoice(told, f, shelf(told.sort[f], m), choice);
            }
        }

        private int rowsOfPart(int item, int m) {
            if (isSort(item)) {
                return many[shelf(item - SORT, m)];
            }
            return m == 1 ? 1 : 0;
        }

        private void addChoice(Telling told, int f, int of, int choice) {
            int value = 0;
            int readings = 1;
            int rest = choice;
            for (int k = 0; k < told.items[f]; k++) {
                int item = told.item[f * ITEMS + k];
                int which = partRows[k] > 0 ? rest % partRows[k] : 0;
                rest = partRows[k] > 0 ? rest / partRows[k] : 0;
                for (int c = 0; c < partCells[k]; c++) {
                    value *= RANKS;
                }
                if (isSort(item)) {
                    int place = shelf(item - SORT, partCells[k]) * MOST + which;
                    value += row[place];
                    readings *= weight[place];
                } else {
                    value += rankOfItem(item);
                }
            }
            insert(of, value, Math.min(readings, 2));
        }

        private void insert(int of, int value, int readings) {
            int first = of * MOST;
            int behind = first + many[of];
            int i = first;
            while (i < behind && row[i] < value) {
                i++;
            }
            if (i < behind && row[i] == value) {
                weight[i] = 2;
                return;
            }
            if (many[of] >= MOST) {
                spent = true;
                return;
            }
            System.arraycopy(row, i, row, i + 1, behind - i);
            System.arraycopy(weight, i, weight, i + 1, behind - i);
            row[i] = value;
            weight[i] = readings;
            many[of]++;
        }
    }

    /** Writes a tree as its row of codes, and lays that row in lines. */
    private static final class Setter {
        private static final int SOFTS = 8;

        final int[] written = new int[PIECES];
        int size;
        final int[] line = new int[PIECES];
        final int[] column = new int[PIECES];
        int lines;
        int reach;
        int cost;
        int opened;
        private Telling told;
        /** Of the gap ahead of each code: its kind, its node among the soft ones, the soft nodes that it is in. */
        private final int[] gapKind = new int[PIECES];
        private final int[] gapNode = new int[PIECES];
        private final int[] gapInside = new int[PIECES];
        private int softs;
        private int mustOpen;
        private int mustShut;
        private int nextKind;
        private int nextNode;
        private int nextInside;

        Setter(Telling first) {
            told = first;
        }

        int codeAt(int i) {
            return within(i, 0, size - 1) ? written[i] : NONE;
        }

        void spellOut(Telling by, Tree tree) {
            told = by;
            size = 0;
            softs = 0;
            mustOpen = 0;
            mustShut = 0;
            nextKind = BLANK;
            nextNode = NONE;
            nextInside = 0;
            emit(tree, 0, 0, 0);
        }

        private void emit(Tree tree, int p, int around, int depth) {
            if (!tree.isNodeAt(p)) {
                emitCode(tree.code[p]);
                return;
            }
            if (depth > DEPTH) {
                return;
            }
            int f = tree.code[p] - NODE;
            int own = countSoft(tree, p);
            int inside = own == NONE ? around : around | 1 << own;
            int child = p + 1;
            for (int k = 0; k < told.items[f]; k++) {
                int item = told.item[f * ITEMS + k];
                if (isWord(item)) {
                    emitCode(item);
                } else {
                    emit(tree, child, inside, depth + 1);
                    child = tree.end[child];
                }
                nextKind = told.gaps[f * ITEMS + k];
                nextNode = nextKind == SOFT ? own : NONE;
                nextInside = inside;
            }
        }

        /** The number of a node among the first eight with soft gaps. */
        private int countSoft(Tree tree, int p) {
            if (softs >= SOFTS || !told.hasSoftGap(tree.code[p] - NODE)) {
                return NONE;
            }
            int pin = tree.pins[tree.rank[p]];
            mustOpen |= pin == 1 ? 1 << softs : 0;
            mustShut |= pin == 2 ? 1 << softs : 0;
            softs++;
            return softs - 1;
        }

        private void emitCode(int code) {
            if (size >= PIECES) {
                return;
            }
            written[size] = code;
            gapKind[size] = nextKind;
            gapNode[size] = nextNode;
            gapInside[size] = nextInside;
            size++;
        }

        /** Lays the written tree with the set of open nodes that costs least. */
        void choose(int width) {
            int bestCost = NONE;
            int best = mustOpen;
            for (int set = 0; set < 1 << softs; set++) {
                if ((set & mustOpen) == mustOpen && (set & mustShut) == 0) {
                    place(set, width);
                    boolean fewer = Integer.bitCount(set) < Integer.bitCount(best);
                    if (bestCost == NONE || cost < bestCost || (cost == bestCost && fewer)) {
                        bestCost = cost;
                        best = set;
                    }
                }
            }
            opened = best;
            place(best, width);
        }

        private void place(int set, int width) {
            int at = 0;
            int over = 0;
            lines = 1;
            reach = 0;
            for (int i = 0; i < size; i++) {
                boolean breaks = i > 0 && gapNode[i] != NONE && (set >> gapNode[i] & 1) == 1;
                if (breaks) {
                    over += Math.max(0, at - width);
                    lines++;
                    at = 2 * Integer.bitCount(gapInside[i] & set);
                } else if (i > 0 && gapKind[i] != TIGHT) {
                    at++;
                }
                line[i] = lines - 1;
                column[i] = at;
                at += lengthOf(written[i]);
                reach = Math.max(reach, at);
            }
            over += Math.max(0, at - width);
            cost = lines + 10 * over;
        }

        private int lengthOf(int code) {
            if (isWord(code)) {
                return told.lengths[code];
            }
            return isNumber(code) && code - NUMBER < 10 ? 1 : 2;
        }
    }

    /** Tells how far trees are from each other, what moved, and joins two on a third one. */
    private static final class Comparer {
        private static final int EDGES = PIECES + 1;

        int moved;
        int movedFrom;
        int movedTo;
        /** Of each of the two trees: labels, ends and first pieces with their end; plain and from the right. */
        private final int[][] label = new int[4][PIECES];
        private final int[][] end = new int[4][PIECES];
        private final int[][] keys = new int[4][PIECES];
        private final int[] keyCount = new int[4];
        private final int[] level = new int[PIECES];
        /** Distances of rows of pieces within two pieces, and of pieces. */
        private final int[] part = new int[EDGES * EDGES];
        private final int[] whole = new int[PIECES * PIECES];

        int measure(Tree a, Tree b) {
            if (a.count == 0 || b.count == 0) {
                return Math.max(a.count, b.count);
            }
            lie(a, 0, false);
            lie(b, 1, false);
            lie(a, 2, true);
            lie(b, 3, true);
            boolean mirrored = (long) work(2) * work(3) < (long) work(0) * work(1);
            int first = mirrored ? 2 : 0;
            for (int i = keyCount[first] - 1; i >= 0; i--) {
                for (int j = keyCount[first + 1] - 1; j >= 0; j--) {
                    measurePieces(first, keys[first][i], keys[first + 1][j]);
                }
            }
            return whole[0];
        }

        /** Puts a tree's pieces into row x; mirrored as if each piece had its own ones from the right. */
        private void lie(Tree tree, int x, boolean mirrored) {
            for (int p = 0; p < tree.count; p++) {
                level[p] = tree.up[p] == NONE ? 0 : level[tree.up[p]] + 1;
                int size = tree.end[p] - p;
                int place = mirrored ? tree.count - size - p + level[p] : p;
                // nodes of unlike tellings are never like, leaves may be
                boolean other = tree.isNodeAt(p) && tree.telling != 0;
                label[x][place] = other ? tree.code[p] + NODE : tree.code[p];
                end[x][place] = place + size;
            }
            listKeys(x, tree.count);
        }

        private void listKeys(int x, int count) {
            keyCount[x] = 0;
            for (int p = 0; p < count; p++) {
                boolean first = true;
                for (int k = 0; k < keyCount[x] && first; k++) {
                    first = end[x][keys[x][k]] != end[x][p];
                }
                if (first) {
                    keys[x][keyCount[x]] = p;
                    keyCount[x]++;
                }
            }
        }

        private int work(int x) {
            int sum = 0;
            for (int k = 0; k < keyCount[x]; k++) {
                sum += end[x][keys[x][k]] - keys[x][k];
            }
            return sum;
        }

        /** Distances of all rows of pieces that end where pieces p and q end; pieces within are known. */
        private void measurePieces(int x, int p, int q) {
            int lastP = end[x][p];
            int lastQ = end[x + 1][q];
            part[lastP * EDGES + lastQ] = 0;
            for (int j = lastQ - 1; j >= q; j--) {
                part[lastP * EDGES + j] = part[lastP * EDGES + j + 1] + 1;
            }
            for (int i = lastP - 1; i >= p; i--) {
                part[i * EDGES + lastQ] = part[(i + 1) * EDGES + lastQ] + 1;
                for (int j = lastQ - 1; j >= q; j--) {
                    int least = 1 + Math.min(part[(i + 1) * EDGES + j], part[i * EDGES + j + 1]);
                    if (end[x][i] == lastP && end[x + 1][j] == lastQ) {
                        int turn = label[x][i] == label[x + 1][j] ? 0 : 1;
                        least = Math.min(least, part[(i + 1) * EDGES + j + 1] + turn);
                        whole[i * PIECES + j] = least;
                    } else {
                        int behind = part[end[x][i] * EDGES + end[x + 1][j]];
                        least = Math.min(least, behind + whole[i * PIECES + j]);
                    }
                    part[i * EDGES + j] = least;
                }
            }
        }

        void findMove(Tree a, Tree b) {
            moved = NONE;
            movedFrom = NONE;
            movedTo = NONE;
            if (a.telling != b.telling) {
                return;
            }
            for (int n = 0; n < a.nodes; n++) {
                for (int m = n == 0 ? 1 : 0; m < b.nodes; m++) {
                    if (Tree.alike(a, a.nodeAt[n], b, b.nodeAt[m]) && a.nodesIn(a.nodeAt[n]) > moved) {
                        moved = a.nodesIn(a.nodeAt[n]);
                        movedFrom = n;
                        movedTo = m;
                    }
                }
            }
        }

        /** Joins l and r on b, piece by piece, into out: how many clashes, or that it is too large. */
        static int merge(Tree b, Tree l, Tree r, Tree out) {
            out.start(b.telling);
            int clashes = 0;
            int p = 0;
            int q = 0;
            int s = 0;
            boolean fine = true;
            for (int step = 0; step < PIECES && p < b.count && fine; step++) {
                boolean same = Tree.alike(l, q, b, p);
                boolean lKept = same || Tree.alike(l, q, r, s);
                boolean rKept = Tree.alike(r, s, b, p);
                boolean oneForm = b.code[p] == l.code[q] && b.code[p] == r.code[s];
                if (!lKept && !rKept && oneForm) {
                    fine = out.add(b.code[p]);
                    p++;
                    q++;
                    s++;
                } else {
                    if (same) {
                        fine = out.addAll(r, s);
                    } else if (rKept || lKept) {
                        fine = out.addAll(l, q);
                    } else {
                        fine = out.addAll(b, p);
                        clashes++;
                    }
                    p = b.end[p];
                    q = l.end[q];
                    s = r.end[s];
                }
            }
            return fine ? clashes : LARGE;
        }
    }

    /** Binds the uses of names to the leaves that tell them. */
    private static final class Binder {
        private static final int USE = 0;

        final int[] boundTo = new int[PIECES];
        private int leaves;
        /** Of a leaf: how its slot names, or none for a number. */
        private final int[] how = new int[PIECES];
        private final int[] reach = new int[PIECES];
        private final int[] boundBefore = new int[PIECES];

        boolean isUse(int l) {
            return how[l] == USE;
        }

        boolean isTell(int l) {
            return how[l] > USE;
        }

        void bind(Telling told, Tree tree) {
            leaves = tree.leaves;
            for (int l = 0; l < leaves; l++) {
                int p = tree.leafAt[l];
                boolean named = isName(tree.code[p]) && tree.up[p] != NONE;
                how[l] = named ? told.naming[(tree.code[tree.up[p]] - NODE) * ITEMS + tree.slot[p]] : NONE;
                reach[l] = isTell(l) ? reachOf(told, tree, p) : 0;
            }
            for (int l = 0; l < leaves; l++) {
                boundTo[l] = isUse(l) ? findTell(tree, l) : NONE;
            }
        }

        private static int reachOf(Telling told, Tree tree, int leafPlace) {
            int p = tree.up[leafPlace];
            for (int step = 0; step < PIECES && p != NONE; step++) {
                if (told.isScope[tree.code[p] - NODE]) {
                    return p;
                }
                p = tree.up[p];
            }
            return 0;
        }

        private int findTell(Tree tree, int use) {
            int place = tree.leafAt[use];
            int best = NONE;
            for (int t = 0; t < leaves; t++) {
                if (isTell(t) && tree.code[tree.leafAt[t]] == tree.code[place] && reaches(tree, t, use)) {
                    boolean inner = best == NONE || reach[t] > reach[best];
                    boolean later = best != NONE && reach[t] == reach[best] && t < use;
                    best = inner || later ? t : best;
                }
            }
            return best;
        }

        private boolean reaches(Tree tree, int tell, int use) {
            int place = tree.leafAt[use];
            boolean inReach = reach[tell] <= place && place < tree.end[reach[tell]];
            return inReach && (how[tell] == 2 || tell < use);
        }

        int countUses(int tell) {
            int many = 0;
            for (int l = 0; l < leaves; l++) {
                many += isUse(l) && boundTo[l] == tell ? 1 : 0;
            }
            return many;
        }

        int firstUnbound() {
            for (int l = 0; l < leaves; l++) {
                if (isUse(l) && boundTo[l] == NONE) {
                    return l;
                }
            }
            return NONE;
        }

        void remember() {
            System.arraycopy(boundTo, 0, boundBefore, 0, leaves);
        }

        /** Writes a name into a tell and into the uses that were bound to it. */
        void spread(Tree tree, int tell, int code) {
            for (int l = 0; l < leaves; l++) {
                if (l == tell || (isUse(l) && boundBefore[l] == tell)) {
                    tree.code[tree.leafAt[l]] = code;
                }
            }
        }

        int firstCaught() {
            for (int l = 0; l < leaves; l++) {
                if (isUse(l) && boundTo[l] != boundBefore[l]) {
                    return l;
                }
            }
            return NONE;
        }
    }

    /** Judges kinds: what is held of a tree, and the fewest of it that can't be together. */
    private static final class Judge {
        private static final int HELD = NODES * RULES + PIECES;

        int blames;
        private int held;
        private int pieces;
        private final int[] heldPiece = new int[HELD];
        /** The piece that it is alike; none where it is of a kind. */
        private final int[] heldMate = new int[HELD];
        private final int[] heldKind = new int[HELD];
        private final int[] heldCode = new int[HELD];
        private final int[] blamedOnes = new int[HELD];
        /** Pieces that are alike have one head, and the head their kinds as a set. */
        private final int[] head = new int[PIECES];
        private final int[] kinds = new int[PIECES];

        /** Lists what is held of a tree whose uses are bound. */
        void hold(Telling told, Tree tree, Binder binder) {
            held = 0;
            pieces = tree.count;
            for (int n = 0; n < tree.nodes; n++) {
                int p = tree.nodeAt[n];
                int f = tree.code[p] - NODE;
                for (int i = 0; i < told.ruleCount[f]; i++) {
                    int s = told.ruleSlot[f * RULES + i];
                    int what = told.ruleWhat[f * RULES + i];
                    int piece = s == NONE ? p : tree.child(p, s);
                    int mate = what < KINDS ? NONE : tree.child(p, what - 10);
                    addHeld(piece, mate, what, 100 * n + i);
                }
            }
            for (int l = 0; l < tree.leaves; l++) {
                if (binder.isUse(l) && binder.boundTo[l] != NONE) {
                    addHeld(tree.leafAt[l], tree.leafAt[binder.boundTo[l]], NONE, 10000 + l);
                }
            }
        }

        private void addHeld(int piece, int mate, int kind, int code) {
            if (held < HELD) {
                heldPiece[held] = piece;
                heldMate[held] = mate;
                heldKind[held] = kind;
                heldCode[held] = code;
                held++;
            }
        }

        void holdAll() {
            letAllGo();
            for (int i = 0; i < held; i++) {
                holdOne(i);
            }
        }

        private void letAllGo() {
            for (int p = 0; p < pieces; p++) {
                head[p] = p;
                kinds[p] = 0;
            }
        }

        private int headOf(int piece) {
            int p = piece;
            for (int step = 0; step < PIECES && head[p] != p; step++) {
                p = head[p];
            }
            return p;
        }

        /** Takes what is held as true; whether a piece is of two kinds by it. */
        private boolean holdOne(int i) {
            int h = headOf(heldPiece[i]);
            if (heldMate[i] == NONE) {
                kinds[h] |= 1 << heldKind[i];
            } else {
                int other = headOf(heldMate[i]);
                kinds[h] |= kinds[other];
                head[other] = h;
            }
            return Integer.bitCount(kinds[h]) >= 2;
        }

        int kindOf(int piece) {
            int set = kinds[headOf(piece)];
            if (Integer.bitCount(set) >= 2) {
                return 9;
            }
            for (int k = 0; k < KINDS; k++) {
                if ((set >> k & 1) == 1) {
                    return k;
                }
            }
            return NONE;
        }

        /**
         * What is left when one after the other is let go: the next one that stays is the last one
         * without which those that stayed and all behind it are no fault.
         */
        void blame() {
            blames = 0;
            int last = NONE;
            for (int round = 0; round <= held; round++) {
                boolean fault = holdBlamed();
                if (fault) {
                    return;
                }
                int i = held;
                while (i > last + 1 && !fault) {
                    i--;
                    fault = holdOne(i);
                }
                if (!fault) {
                    return;
                }
                blamedOnes[blames] = i;
                blames++;
                last = i;
            }
        }

        private boolean holdBlamed() {
            letAllGo();
            boolean fault = false;
            for (int k = 0; k < blames; k++) {
                fault |= holdOne(blamedOnes[k]);
            }
            return fault;
        }

        int blameCode(int i) {
            return within(i, 0, blames - 1) ? heldCode[blamedOnes[i]] : NONE;
        }
    }

    /** Works a tree to a value. */
    private static final class Runner {
        private static final int LET = 4, IF = 5, SEVEN = 6, SLOTS = 7;

        int used;
        boolean spent;
        private Telling told;
        private Tree tree;
        private int fuel;
        private final int[] world = new int[NAMES];
        private final int[] let = new int[NAMES];
        private final boolean[] isLet = new boolean[NAMES];

        Runner(Telling firstTelling, Tree firstTree) {
            told = firstTelling;
            tree = firstTree;
        }

        void enter(int[] worlds, int w) {
            System.arraycopy(worlds, w * NAMES, world, 0, NAMES);
        }

        int work(Telling by, Tree of, int mostFuel) {
            told = by;
            tree = of;
            fuel = mostFuel;
            used = 0;
            spent = false;
            for (int name = 0; name < NAMES; name++) {
                isLet[name] = false;
            }
            return workPiece(0, 0);
        }

        private int workPiece(int p, int depth) {
            int code = tree.code[p];
            if (tree.isNodeAt(p)) {
                return workNode(p, code - NODE, depth);
            }
            if (isHole(code)) {
                return world[code - HOLE];
            }
            if (isName(code)) {
                return isLet[code - NAME] ? let[code - NAME] : world[code - NAME];
            }
            return code - NUMBER;
        }

        private int workNode(int p, int f, int depth) {
            if (spent || used >= fuel || depth > DEPTH) {
                spent = true;
                return 0;
            }
            used++;
            int slots = told.slots[f];
            switch (told.act[f]) {
                case LET:
                    return slots < 3 ? 0 : workLet(p, depth);
                case IF:
                    return slots < 3 ? 0 : workIf(p, depth);
                case SEVEN:
                    return 7;
                case SLOTS:
                    return slots;
                default:
                    return workSlots(p, told.act[f], slots, depth);
            }
        }

        /** The first slot, or the sum, product or difference of all. */
        private int workSlots(int p, int act, int slots, int depth) {
            int worked = act == 2 ? 1 : 0;
            int wanted = act == 0 ? Math.min(slots, 1) : slots;
            for (int i = 0; i < wanted; i++) {
                int x = workPiece(tree.child(p, i), depth + 1);
                if (act == 2) {
                    worked *= x;
                } else if (act == 3 && i > 0) {
                    worked -= x;
                } else {
                    worked += x;
                }
            }
            return worked;
        }

        private int workLet(int p, int depth) {
            int code = tree.code[tree.child(p, 0)];
            if (!isName(code)) {
                return 0;
            }
            int name = code - NAME;
            int x = workPiece(tree.child(p, 1), depth + 1);
            int outer = let[name];
            boolean wasLet = isLet[name];
            let[name] = x;
            isLet[name] = true;
            int worked = workPiece(tree.child(p, 2), depth + 1);
            let[name] = outer;
            isLet[name] = wasLet;
            return worked;
        }

        private int workIf(int p, int depth) {
            int x = workPiece(tree.child(p, 0), depth + 1);
            return workPiece(tree.child(p, x == 0 ? 1 : 2), depth + 1);
        }
    }

    /** Finds turns from shown pairs, puts them in, and seeks the way from one side to the other by laws. */
    private static final class Turner {
        private static final int MOST_TREES = 60;

        int pairs;
        int pairTelling;
        final boolean[] there = new boolean[TURNS];
        final boolean[] isLaw = new boolean[TURNS];
        /** Before and after of each shown pair, and of each turn. */
        private final Tree[] shown = new Tree[PAIRS * 2];
        private final Tree[] sides = new Tree[TURNS * 2];
        /** The places that are laid over one another, and for each hole its row of them in the befores. */
        private final int[] place = new int[PAIRS];
        private final int[] holePlace = new int[HOLES * PAIRS];
        private int holes;
        /** What each hole stands for, as a place in the tree that is looked at. */
        private final int[] stands = new int[HOLES];
        private final Tree before = new Tree();
        private final Tree after = new Tree();
        /** The trees that a search has come to, as rows of codes. */
        private final int[][] found = new int[MOST_TREES][PIECES];
        private final int[] foundCount = new int[MOST_TREES];
        private final int[] foundSteps = new int[MOST_TREES];
        private int founds;
        private final Tree from = new Tree();
        private final Tree next = new Tree();

        Turner() {
            for (int i = 0; i < PAIRS * 2; i++) {
                shown[i] = new Tree();
            }
            for (int i = 0; i < TURNS * 2; i++) {
                sides[i] = new Tree();
            }
        }

        Tree side(int turn, int which) {
            return sides[turn * 2 + which];
        }

        int countTurns(boolean lawsAlone) {
            int many = 0;
            for (int turn = 0; turn < TURNS; turn++) {
                many += there[turn] && (isLaw[turn] || !lawsAlone) ? 1 : 0;
            }
            return many;
        }

        void forget(int v) {
            if (pairTelling == v) {
                pairs = 0;
            }
            for (int turn = 0; turn < TURNS; turn++) {
                if (side(turn, 0).telling == v) {
                    there[turn] = false;
                    isLaw[turn] = false;
                }
            }
        }

        int addPair(Tree first, Tree second) {
            pairTelling = first.telling;
            shown[pairs * 2].become(first);
            shown[pairs * 2 + 1].become(second);
            pairs++;
            return pairs;
        }

        /** Makes a turn of what is shown: how many holes it has, or that there is none. */
        int layOver(int turn, int[] slots) {
            holes = 0;
            if (!layBefores() || !layAfters()) {
                return NOT;
            }
            before.index(slots);
            after.index(slots);
            side(turn, 0).become(before);
            side(turn, 1).become(after);
            there[turn] = true;
            isLaw[turn] = false;
            return holes;
        }

        private boolean layBefores() {
            before.start(pairTelling);
            Arrays.fill(place, 0);
            for (int step = 0; step < PIECES && place[0] < shown[0].count; step++) {
                if (isOne(0)) {
                    before.add(shown[0].code[place[0]]);
                    goOn(0, true);
                } else {
                    int hole = holeOf(0);
                    if (hole == NONE && holes < HOLES) {
                        System.arraycopy(place, 0, holePlace, holes * PAIRS, PAIRS);
                        hole = holes;
                        holes++;
                    }
                    if (hole == NONE || !before.add(HOLE + hole)) {
                        return false;
                    }
                    goOn(0, false);
                }
            }
            return !isHole(before.code[0]);
        }

        private boolean layAfters() {
            after.start(pairTelling);
            Arrays.fill(place, 0);
            for (int step = 0; step < PIECES && place[0] < shown[1].count; step++) {
                if (isOne(1)) {
                    after.add(shown[1].code[place[0]]);
                    goOn(1, true);
                } else {
                    int hole = holeOf(1);
                    if (hole == NONE || !after.add(HOLE + hole)) {
                        return false;
                    }
                    goOn(1, false);
                }
            }
            return true;
        }

        /** Whether the pieces over one another are like leaves or nodes of one form. */
        private boolean isOne(int which) {
            for (int k = 1; k < pairs; k++) {
                if (shown[k * 2 + which].code[place[k]] != shown[which].code[place[0]]) {
                    return false;
                }
            }
            return true;
        }

        private void goOn(int which, boolean inside) {
            for (int k = 0; k < pairs; k++) {
                place[k] = inside ? place[k] + 1 : shown[k * 2 + which].end[place[k]];
            }
        }

        /** The hole that the befores have for just the pieces over one another. */
        private int holeOf(int which) {
            for (int hole = 0; hole < holes; hole++) {
                boolean same = true;
                for (int k = 0; k < pairs && same; k++) {
                    Tree first = shown[k * 2];
                    same = Tree.alike(shown[k * 2 + which], place[k], first, holePlace[hole * PAIRS + k]);
                }
                if (same) {
                    return hole;
                }
            }
            return NONE;
        }

        int countFits(Telling told, Tree pattern, Tree tree) {
            int many = 0;
            for (int n = 0; n < tree.nodes; n++) {
                many += matches(told, pattern, tree, tree.nodeAt[n]) ? 1 : 0;
            }
            return many;
        }

        /** Whether a pattern is so at a piece; then it is told what its holes stand for. */
        private boolean matches(Telling told, Tree pattern, Tree tree, int at) {
            if (!tree.isNodeAt(at) || told.sort[tree.code[at] - NODE] != 0) {
                return false;
            }
            Arrays.fill(stands, NONE);
            int q = at;
            boolean fine = true;
            for (int p = 0; p < pattern.count && fine; p++) {
                int code = pattern.code[p];
                if (isHole(code)) {
                    int hole = code - HOLE;
                    fine = stands[hole] == NONE || Tree.alike(tree, stands[hole], tree, q);
                    stands[hole] = stands[hole] == NONE ? q : stands[hole];
                    q = tree.end[q];
                } else {
                    fine = tree.code[q] == code;
                    q++;
                }
            }
            return fine;
        }

        /** Adds a side with what its holes stand for in a tree. */
        private boolean addFilled(Tree pattern, Tree tree, Tree out) {
            boolean fine = true;
            for (int p = 0; p < pattern.count && fine; p++) {
                int code = pattern.code[p];
                if (isHole(code)) {
                    int stood = stands[code - HOLE];
                    fine = stood != NONE && out.addRange(tree, stood, tree.end[stood]);
                } else {
                    fine = out.add(code);
                }
            }
            return fine;
        }

        /** Applies a turn to a tree, into out: at how many nodes, or that it is too large. */
        int putIn(Telling told, int turn, Tree tree, Tree out) {
            out.start(tree.telling);
            int places = 0;
            int p = 0;
            boolean fine = true;
            for (int step = 0; step < PIECES && p < tree.count && fine; step++) {
                if (matches(told, side(turn, 0), tree, p)) {
                    fine = addFilled(side(turn, 1), tree, out);
                    places++;
                    p = tree.end[p];
                } else {
                    fine = out.add(tree.code[p]);
                    p++;
                }
            }
            return fine ? places : LARGE;
        }

        /** How many steps by laws lead from a turn's before to its after. */
        int seek(Telling told, int turn) {
            founds = 0;
            Tree goal = side(turn, 1);
            if (isRow(side(turn, 0), goal.code, goal.count)) {
                return 0;
            }
            addFound(side(turn, 0), 0);
            int answer = NONE;
            for (int i = 0; i < MOST_TREES && i < founds && answer == NONE; i++) {
                loadFound(told, i);
                for (int way = 0; way < TURNS * 2 && answer == NONE; way++) {
                    if (way / 2 != turn && isWay(way, goal.telling)) {
                        answer = seekBy(told, way, goal, foundSteps[i] + 1);
                    }
                }
            }
            return answer;
        }

        /** Even ways go from a law's before to its after, odd ones back, if no hole is lost there. */
        private boolean isWay(int way, int v) {
            int law = way / 2;
            if (!there[law] || !isLaw[law] || side(law, 0).telling != v) {
                return false;
            }
            return way % 2 == 0 || holesIn(side(law, 0)) == holesIn(side(law, 1));
        }

        private void addFound(Tree tree, int steps) {
            System.arraycopy(tree.code, 0, found[founds], 0, tree.count);
            foundCount[founds] = tree.count;
            foundSteps[founds] = steps;
            founds++;
        }

        private void loadFound(Telling told, int i) {
            from.start(NONE);
            for (int p = 0; p < foundCount[i]; p++) {
                from.add(found[i][p]);
            }
            from.index(told.slots);
        }

        /** Goes one way at each node: the steps to the goal, none, or that the trees are too many. */
        private int seekBy(Telling told, int way, Tree goal, int steps) {
            for (int n = 0; n < from.nodes; n++) {
                int at = from.nodeAt[n];
                if (matches(told, sides[way], from, at) && turnAt(at, sides[way ^ 1])) {
                    if (isRow(next, goal.code, goal.count)) {
                        return steps;
                    }
                    if (!isFound()) {
                        if (founds >= MOST_TREES) {
                            return SPENT;
                        }
                        addFound(next, steps);
                    }
                }
            }
            return NONE;
        }

        /** The next tree: a side put in for one piece; false if it is too large. */
        private boolean turnAt(int at, Tree in) {
            next.start(NONE);
            return next.addRange(from, 0, at)
                && addFilled(in, from, next)
                && next.addRange(from, from.end[at], from.count);
        }

        private boolean isFound() {
            for (int i = 0; i < founds; i++) {
                if (isRow(next, found[i], foundCount[i])) {
                    return true;
                }
            }
            return false;
        }

        private static boolean isRow(Tree tree, int[] row, int count) {
            if (tree.count != count) {
                return false;
            }
            for (int p = 0; p < count; p++) {
                if (tree.code[p] != row[p]) {
                    return false;
                }
            }
            return true;
        }

        private static int holesIn(Tree pattern) {
            int set = 0;
            for (int p = 0; p < pattern.count; p++) {
                set |= isHole(pattern.code[p]) ? 1 << pattern.code[p] - HOLE : 0;
            }
            return set;
        }
    }

    /** A row of cells of one form, as large as was asked for. */
    private static final class Sheet {
        private static final int BYTES = 0, SHORTS = 1, INTS = 2;

        boolean there;
        int form;
        int size;
        final int[] row = new int[SHEET_CELLS];

        int make(int ofForm, int n) {
            there = true;
            form = ofForm;
            size = n;
            Arrays.fill(row, 0);
            return n;
        }

        int store(int i, int v) {
            switch (form) {
                case BYTES:
                    row[i] = (byte) v;
                    break;
                case SHORTS:
                    row[i] = (short) v;
                    break;
                case INTS:
                    row[i] = v;
                    break;
                default:
                    row[i] = (char) v;
                    break;
            }
            return row[i];
        }
    }
}
