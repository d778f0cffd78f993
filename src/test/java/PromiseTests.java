/** For each promise of the document: ordinary calls, the edges that it names, and wrong calls. */
public final class PromiseTests extends Asking {
    public static void main(String[] args) {
        tellings();
        texts();
        theReader();
        trees();
        theSetting();
        comparing();
        names();
        kinds();
        meaning();
        turns();
        carrying();
        teacherAndSheets();
        end("all promises are kept");
    }

    // ---- tellings

    private static void tellings() {
        newObject();
        lengths();
        newForms();
        clearing();
        formsAsked();
        gapsAndNames();
        scopesAndRules();
        meansAndCounts();
    }

    private static void newObject() {
        of(1);
        GrammarTools x = new GrammarTools();
        for (int what = 0; what < 8; what++) {
            due(x.count(what), 0);
        }
        for (int t = 0; t < 8; t++) {
            due(x.at(t, 0), NONE);
            due(x.wipe(t), 0);
        }
        for (int tree = 0; tree < 12; tree++) {
            due(x.size(tree, 0), UNKNOWN);
        }
        for (int word = 0; word < 12; word++) {
            due(x.length(0, word, 5), 3);
            due(x.length(1, word, 5), 3);
        }
        for (int w = 0; w < 4; w++) {
            due(x.world(w, 0, 9), 0);
            due(x.world(w, 15, 9), 0);
        }
        for (int turn = 0; turn < 6; turn++) {
            due(x.fits(turn, 0), UNKNOWN);
        }
        for (int s = 0; s < 4; s++) {
            due(x.get(s, 0), -11);
        }
        due(x.value(), 0);
        due(x.idle(0), 0);
        due(x.hide(), 0);
        GrammarTools y = new GrammarTools();
        form(x, 0, 0, 1);
        x.cell(0, 1);
        due(y.count(0), 0);
        due(y.at(0, 0), NONE);
    }

    private static void lengths() {
        of(2);
        GrammarTools x = new GrammarTools();
        due(x.length(0, 0, 1), 3);
        due(x.length(0, 0, 9), 1);
        due(x.length(0, 0, 4), 9);
        due(x.length(1, 0, 4), 3);
        due(x.length(0, 11, 2), 3);
        due(x.length(0, 12, 2), OUTSIDE);
        due(x.length(0, -1, 2), OUTSIDE);
        due(x.length(0, 0, 0), OUTSIDE);
        due(x.length(0, 0, 10), OUTSIDE);
        due(x.length(0, 0, MIN), OUTSIDE);
        due(x.length(2, 0, 3), UNKNOWN);
        due(x.length(-1, 99, 99), UNKNOWN);
        due(x.length(0, 0, 4), 4);
        form(x, 0, 0, 0);
        tree(x, 0, 0);
        due(x.lay(0, 60, 3), 4);
        x.clear(0);
        due(x.length(0, 0, 3), 4);
    }

    private static void newForms() {
        of(3);
        GrammarTools x = new GrammarTools();
        due(x.form(0, 0, 61, NONE, 0, 0, 0), 0);
        due(x.form(0, 0, 0, NONE, 99, -7, MAX), 1);
        due(x.form(0, 5, 0, 11, 20, 40, 65), 2);
        due(x.forms(0, 0, 1), 1);
        due(x.forms(0, 1, 1), 1);
        due(x.forms(0, 2, 1), 5);
        due(x.form(1, 0, 20, NONE, 0, 0, 0), 0);
        due(x.form(0, 0, NONE, 1, 1, 1, 1), OUTSIDE);
        due(x.form(0, -1, 1, NONE, 0, 0, 0), OUTSIDE);
        due(x.form(0, 6, 1, NONE, 0, 0, 0), OUTSIDE);
        int[] bad = {12, 19, 21, 39, 41, 59, 66, 139, -2, MAX, MIN};
        for (int code : bad) {
            due(x.form(0, 0, code, NONE, 0, 0, 0), OUTSIDE);
            due(x.form(0, 0, 1, 1, 1, 1, code), OUTSIDE);
        }
        due(x.form(0, 0, 60, NONE, 0, 0, 0), OUTSIDE);
        due(x.form(0, 3, 63, NONE, 0, 0, 0), OUTSIDE);
        due(x.form(0, 3, 62, NONE, 0, 0, 0), OUTSIDE);
        due(x.form(0, 5, 65, NONE, 0, 0, 0), OUTSIDE);
        due(x.form(2, 0, 1, NONE, 0, 0, 0), UNKNOWN);
        due(x.form(-1, 9, 99, 0, 0, 0, 0), UNKNOWN);
        due(x.count(0), 3);
        due(x.form(0, 3, 64, NONE, 0, 0, 0), 3);
        due(x.form(0, 3, 63, 63, NONE, 0, 0), 4);
        for (int f = 5; f < 14; f++) {
            due(x.form(0, 1, 1, NONE, 0, 0, 0), f);
        }
        due(x.form(0, 1, 1, NONE, 0, 0, 0), FULL);
        due(x.form(0, 1, 12, NONE, 0, 0, 0), OUTSIDE);
        due(x.form(1, 1, 1, NONE, 0, 0, 0), 1);
        due(x.count(0), 14);
    }

    private static void clearing() {
        of(4);
        GrammarTools x = sums();
        tellSums(x, 1);
        tree(x, 0, 41);
        treeOf(x, 1, 1, 41);
        x.show(0, 0);
        x.find(0);
        x.law(0, true);
        x.hide();
        x.show(1, 1);
        x.find(1);
        x.map(0, 0, 0, 0, 0, 0, 0);
        due(x.clear(0), 6);
        due(x.count(0), 0);
        due(x.count(1), 6);
        due(x.size(0, 0), UNKNOWN);
        due(x.size(1, 0), 2);
        due(x.count(2), 1);
        due(x.count(3), 1);
        due(x.count(4), 1);
        due(x.count(5), 0);
        due(x.count(6), 0);
        due(x.fits(0, 1), UNKNOWN);
        due(x.fits(1, 1), 1);
        due(x.at(7, 0), 41);
        due(x.clear(0), 0);
        tellSums(x, 0);
        due(x.unmap(0), 0);
        x.map(0, 0, 0, 0, 0, 0, 0);
        due(x.clear(1), 6);
        due(x.count(6), 0);
        due(x.count(3), 0);
        due(x.count(4), 0);
        due(x.count(2), 0);
        due(x.clear(2), UNKNOWN);
        due(x.clear(-1), UNKNOWN);
        x.rule(0, 3, NONE, 1);
        x.gap(0, 1, 0, 2);
        x.name(0, 3, 0, 2);
        x.scope(0, 1, true);
        x.mean(0, 1, 3);
        due(x.clear(0), 6);
        tellSums(x, 0);
        due(x.forms(0, 3, 10), 0);
        due(x.forms(0, 1, 9), 0);
        due(x.forms(0, 1, 8), 0);
        due(x.gap(0, 1, 0, 1), 1);
        due(x.name(0, 3, 0, 0), 0);
    }

    private static void formsAsked() {
        of(5);
        GrammarTools x = new GrammarTools();
        x.form(0, 4, 0, 20, 40, 65, NONE);
        x.form(0, 1, 11, NONE, 3, 3, 3);
        int[] first = {4, 4, 3, 0, 20, 40, 65, NONE, 0, 0, 0};
        int[] second = {1, 1, 0, 11, NONE, NONE, NONE, NONE, 0, 0, 0};
        for (int what = 0; what <= 10; what++) {
            due(x.forms(0, 0, what), first[what]);
            due(x.forms(0, 1, what), second[what]);
        }
        x.mean(0, 0, 5);
        x.scope(0, 0, true);
        x.rule(0, 0, 0, 3);
        x.rule(0, 0, 1, 3);
        due(x.forms(0, 0, 8), 5);
        due(x.forms(0, 0, 9), 1);
        due(x.forms(0, 0, 10), 2);
        due(x.forms(0, 0, 11), OUTSIDE);
        due(x.forms(0, 0, -1), OUTSIDE);
        due(x.forms(0, 2, 0), UNKNOWN);
        due(x.forms(0, -1, 0), UNKNOWN);
        due(x.forms(1, 0, 0), UNKNOWN);
        due(x.forms(2, 0, 99), UNKNOWN);
    }

    private static void gapsAndNames() {
        of(6);
        GrammarTools x = sums();
        due(x.gap(0, 1, 0, 2), 1);
        due(x.gap(0, 1, 0, 0), 2);
        due(x.gap(0, 1, 1, 1), 1);
        due(x.gap(0, 1, 2, 1), OUTSIDE);
        due(x.gap(0, 1, -1, 1), OUTSIDE);
        due(x.gap(0, 0, 0, 1), OUTSIDE);
        due(x.gap(0, 1, 0, 3), OUTSIDE);
        due(x.gap(0, 1, 0, -1), OUTSIDE);
        due(x.gap(0, 6, 0, 1), UNKNOWN);
        due(x.gap(1, 0, 0, 1), UNKNOWN);
        due(x.gap(2, 0, 9, 9), UNKNOWN);
        due(x.gap(0, 1, 0, 1), 0);
        of(7);
        due(x.name(0, 5, 0, 1), 0);
        due(x.name(0, 5, 0, 2), 1);
        due(x.name(0, 5, 0, 2), 2);
        due(x.name(0, 5, 1, 1), NOT);
        due(x.name(0, 2, 0, 1), NOT);
        due(x.name(0, 5, 1, 3), OUTSIDE);
        due(x.name(0, 5, 2, 1), OUTSIDE);
        due(x.name(0, 5, -1, 1), OUTSIDE);
        due(x.name(0, 5, 0, 3), OUTSIDE);
        due(x.name(0, 5, 0, -1), OUTSIDE);
        due(x.name(0, 6, 0, 0), UNKNOWN);
        due(x.name(1, 0, 9, 9), UNKNOWN);
        due(x.name(0, 5, 0, 0), 2);
        due(x.name(0, 3, 0, 1), 0);
    }

    private static void scopesAndRules() {
        of(8);
        GrammarTools x = sums();
        due(x.scope(0, 1, true), 0);
        due(x.scope(0, 1, true), 1);
        due(x.scope(0, 1, false), 1);
        due(x.scope(0, 1, false), 0);
        due(x.scope(0, 6, true), UNKNOWN);
        due(x.scope(0, -1, true), UNKNOWN);
        due(x.scope(2, 0, true), UNKNOWN);
        of(9);
        due(x.rule(0, 1, NONE, 0), 1);
        due(x.rule(0, 1, 0, 5), 2);
        due(x.rule(0, 1, 1, 10), 3);
        due(x.rule(0, 1, 0, 11), 4);
        due(x.rule(0, 1, NONE, 11), 5);
        due(x.rule(0, 1, 0, 10), OUTSIDE);
        due(x.rule(0, 1, 1, 11), OUTSIDE);
        due(x.rule(0, 1, 0, 12), OUTSIDE);
        due(x.rule(0, 1, 2, 0), OUTSIDE);
        due(x.rule(0, 1, -2, 0), OUTSIDE);
        due(x.rule(0, 1, 0, 6), OUTSIDE);
        due(x.rule(0, 1, 0, 9), OUTSIDE);
        due(x.rule(0, 1, 0, -1), OUTSIDE);
        due(x.rule(0, 1, 0, MAX), OUTSIDE);
        due(x.rule(0, 1, 0, 5), 6);
        due(x.rule(0, 1, 0, 5), FULL);
        due(x.rule(0, 1, 0, 6), OUTSIDE);
        due(x.rule(0, 6, 0, 0), UNKNOWN);
        due(x.rule(2, 0, 9, 9), UNKNOWN);
        due(x.forms(0, 1, 10), 6);
        due(x.rule(0, 0, 0, 0), 1);
        of(10);
        due(x.unrule(0, 1), 6);
        due(x.unrule(0, 1), 0);
        due(x.forms(0, 1, 10), 0);
        due(x.forms(0, 0, 10), 1);
        due(x.rule(0, 1, 0, 0), 1);
        due(x.unrule(0, 6), UNKNOWN);
        due(x.unrule(1, 0), UNKNOWN);
        due(x.unrule(-1, 0), UNKNOWN);
    }

    private static void meansAndCounts() {
        of(11);
        GrammarTools x = sums();
        due(x.mean(0, 1, 7), 0);
        due(x.mean(0, 1, 0), 7);
        due(x.mean(0, 1, 8), OUTSIDE);
        due(x.mean(0, 1, -1), OUTSIDE);
        due(x.mean(0, 6, 1), UNKNOWN);
        due(x.mean(1, 0, 9), UNKNOWN);
        due(x.mean(0, 1, 1), 0);
        of(12);
        tellSums(x, 1);
        form(x, 1, 2, 5);
        tree(x, 3, 41);
        tree(x, 11, 42);
        x.show(3, 11);
        x.find(2);
        x.find(5);
        x.law(5, true);
        x.map(2, 2, 0, 0, 0, 0, 0);
        x.map(3, 3, 0, 0, 0, 0, 0);
        x.map(3, 3, 0, 0, 0, 0, 0);
        x.forge(1, 0, 0);
        int[] many = {6, 7, 2, 1, 2, 1, 2, 1};
        for (int what = 0; what < 8; what++) {
            due(x.count(what), many[what]);
        }
        due(x.count(8), OUTSIDE);
        due(x.count(-1), OUTSIDE);
        due(x.count(MIN), OUTSIDE);
    }

    // ---- texts

    private static void texts() {
        of(13);
        GrammarTools x = new GrammarTools();
        int[] good = {0, 11, 20, 35, 40, 139};
        for (int i = 0; i < good.length; i++) {
            due(x.cell(0, good[i]), i + 1);
            due(x.at(0, i), good[i]);
        }
        int[] bad = {-1, 12, 19, 36, 39, 140, 60 + 200, MAX, MIN};
        for (int code : bad) {
            due(x.cell(0, code), OUTSIDE);
        }
        for (int i = 7; i <= 16; i++) {
            due(x.cell(0, 60), i);
        }
        due(x.cell(0, 60), FULL);
        due(x.cell(0, 12), OUTSIDE);
        due(x.cell(7, 1), 1);
        due(x.cell(8, 1), UNKNOWN);
        due(x.cell(-1, 99999), UNKNOWN);
        due(x.at(0, 15), 60);
        of(14);
        due(x.put(0, 0, 5), 0);
        due(x.put(0, 15, 20), 60);
        due(x.at(0, 0), 5);
        due(x.at(0, 15), 20);
        due(x.put(7, 1, 5), OUTSIDE);
        due(x.put(7, -1, 5), OUTSIDE);
        due(x.put(7, 0, 12), OUTSIDE);
        due(x.put(7, 0, 36), OUTSIDE);
        due(x.put(8, 0, 1), UNKNOWN);
        due(x.put(-1, 0, 1), UNKNOWN);
        due(x.at(7, 0), 1);
        due(x.put(1, 0, 1), OUTSIDE);
        of(15);
        due(x.wipe(0), 16);
        due(x.wipe(0), 0);
        due(x.at(0, 0), NONE);
        due(x.at(7, 0), 1);
        due(x.cell(0, 3), 1);
        due(x.wipe(8), UNKNOWN);
        due(x.wipe(-1), UNKNOWN);
        of(16);
        due(x.at(0, 0), 3);
        due(x.at(0, 1), NONE);
        due(x.at(0, -1), NONE);
        due(x.at(0, 16), NONE);
        due(x.at(0, MAX), NONE);
        due(x.at(8, 0), UNKNOWN);
        due(x.at(-1, 0), UNKNOWN);
    }

    // ---- the reader

    private static void theReader() {
        readings();
        firstReading();
        idleForms();
        rowsAndTwo();
        prices();
        mendings();
    }

    /** Forms 0 to 5: a sort that is the next one, and word 5. */
    private static GrammarTools sortChain() {
        GrammarTools x = new GrammarTools();
        for (int sort = 0; sort < 5; sort++) {
            form(x, 0, sort, 61 + sort);
        }
        form(x, 0, 5, 5);
        return x;
    }

    private static void readings() {
        of(17);
        GrammarTools x = sums();
        due(x.readings(0, 0), 0);
        text(x, 0, 41);
        due(x.readings(0, 0), 1);
        text(x, 0, 41, 0);
        due(x.readings(0, 0), 0);
        text(x, 0, 2, 41, 0, 20, 3, 0, 4, 21, 5, 42);
        due(x.readings(0, 0), 1);
        due(x.readings(1, 0), 0);
        due(x.readings(2, 0), UNKNOWN);
        due(x.readings(-1, 0), UNKNOWN);
        due(x.readings(0, 8), UNKNOWN);
        due(x.readings(0, -1), UNKNOWN);
        // a sum of sums: 5 ways for 4 parts, 429 for 8, more than 1000 for 9
        GrammarTools y = new GrammarTools();
        form(y, 0, 0, 60, 60);
        form(y, 0, 0, 20);
        int[] ways = {0, 1, 1, 2, 5, 14, 42, 132, 429, 1000, 1000};
        for (int n = 1; n <= 10; n++) {
            y.cell(0, 20);
            due(y.readings(0, 0), ways[n]);
        }
        GrammarTools chain = sortChain();
        text(chain, 0, 5);
        due(chain.readings(0, 0), 1);
        due(chain.read(0, 0, 0), 6);
        form(y, 0, 1, 5);
        form(y, 0, 0, 20);
        text(y, 0, 20);
        due(y.readings(0, 0), 2);
        text(y, 0, 5);
        due(y.readings(0, 0), 0);
    }

    private static void firstReading() {
        of(18);
        GrammarTools x = sums();
        due(tree(x, 0, 41), 2);
        due(tree(x, 0, 41, 0, 42, 0, 20), 6);
        due(x.node(0, 0, 0), 1);
        due(x.node(0, 1, 0), 1);
        due(x.node(0, 2, 0), 0);
        due(tree(x, 0, 41, 0), NOT);
        due(x.size(0, 0), 6);
        due(x.read(0, 0, 1), NOT);
        due(x.read(1, 7, 1), NOT);
        due(x.read(0, 7, 12), UNKNOWN);
        due(x.read(0, 7, -1), UNKNOWN);
        due(x.read(2, 7, 0), UNKNOWN);
        due(x.read(0, 8, 0), UNKNOWN);
        // the least form first: with forms 0 two parts, 1 three parts, both read three names
        GrammarTools y = new GrammarTools();
        form(y, 0, 0, 60, 60);
        form(y, 0, 0, 60, 60, 60);
        form(y, 0, 0, 20);
        due(tree(y, 0, 20, 21, 22), 5);
        due(y.node(0, 0, 0), 0);
        // the first part is as short as can be: 20 and (21 22), not (20 21) and 22
        due(y.slot(0, 0, 0), 1001);
        due(y.node(0, 1, 2), 1);
        due(y.node(0, 2, 2), 3);
        // so also where the least form needs the longer first part
        GrammarTools z = new GrammarTools();
        form(z, 0, 0, 61, 61);
        form(z, 0, 1, 20);
        form(z, 0, 1, 20, 20);
        form(z, 0, 1, 20, 20, 20);
        due(tree(z, 0, 20, 21, 22), 3);
        due(z.node(0, 1, 0), 1);
        due(z.node(0, 2, 0), 2);
        // names, each in three nodes
        GrammarTools deep = new GrammarTools();
        form(deep, 0, 0, 61, 60);
        form(deep, 0, 0, 61);
        form(deep, 0, 1, 62);
        form(deep, 0, 2, 20);
        text(deep, 7, 20, 20, 20, 20, 20, 20, 20, 20, 20, 20, 20, 20, 20);
        due(deep.read(0, 7, 0), 39);
        deep.cell(7, 20);
        due(deep.read(0, 7, 1), LARGE);
        due(deep.read(0, 7, 0), LARGE);
        due(deep.count(2), 1);
        due(deep.size(0, 0), 39);
        // one node more is just as many as there may be, two more are too many
        form(deep, 0, 0, 40);
        form(deep, 0, 1, 5, 40);
        due(tree(deep, 1, 20, 20, 20, 20, 20, 20, 20, 20, 20, 20, 20, 20, 20, 41), 40);
        due(tree(deep, 1, 20, 20, 20, 20, 20, 20, 20, 20, 20, 20, 20, 20, 20, 5, 41), LARGE);
        due(deep.size(1, 0), 40);
    }

    private static void idleForms() {
        of(19);
        GrammarTools x = sums();
        due(x.idle(0), 0);
        due(x.idle(1), 0);
        form(x, 0, 2, 1);
        due(x.idle(0), 1 << 6);
        form(x, 0, 3, 63, 1);
        due(x.idle(0), 1 << 6 | 1 << 7);
        form(x, 0, 1, 63);
        due(x.idle(0), 1 << 6 | 1 << 7 | 1 << 8);
        form(x, 0, 4, 63, 62);
        due(x.idle(0), 1 << 6 | 1 << 7 | 1 << 8 | 1 << 9);
        form(x, 0, 3, 2);
        due(x.idle(0), 1 << 6 | 1 << 9);
        due(x.idle(2), UNKNOWN);
        due(x.idle(-1), UNKNOWN);
        GrammarTools y = new GrammarTools();
        form(y, 0, 0, 60, 60);
        form(y, 0, 1, 20);
        due(y.idle(0), 3);
        due(sortChain().idle(0), 0);
        for (int sort = 5; sort >= 0; sort--) {
            form(y, 1, sort, sort == 5 ? 20 : 61 + sort);
        }
        due(y.idle(1), 0);
    }

    private static void rowsAndTwo() {
        of(20);
        GrammarTools x = sums();
        due(x.rows(0, 0, 1), 2);
        due(x.rows(0, 0, 2), 0);
        due(x.rows(0, 0, 3), 6);
        due(x.rows(0, 1, 3), 2);
        due(x.rows(0, 1, 4), 2);
        due(x.rows(0, 0, 4), 2);
        due(x.rows(0, 5, 4), 0);
        due(x.rows(1, 0, 4), 0);
        due(x.rows(0, 6, 1), OUTSIDE);
        due(x.rows(0, -1, 1), OUTSIDE);
        due(x.rows(0, 0, 0), OUTSIDE);
        due(x.rows(0, 0, 5), OUTSIDE);
        due(x.rows(2, 9, 9), UNKNOWN);
        due(sortChain().rows(0, 0, 1), 1);
        due(sortChain().rows(0, 5, 1), 1);
        // ten words alone: 10, 100 and then 1000 rows
        GrammarTools y = new GrammarTools();
        for (int word = 0; word < 10; word++) {
            form(y, 0, 4, word);
        }
        form(y, 0, 3, 64, 64);
        due(y.rows(0, 3, 2), 100);
        due(y.rows(0, 3, 4), 0);
        form(y, 0, 2, 64, 64, 64);
        due(y.rows(0, 3, 2), 100);
        due(y.rows(0, 3, 3), SPENT);
        due(y.rows(0, 0, 4), SPENT);
        due(y.rows(0, 0, 1), 0);
        form(y, 0, 3, 10, 10);
        due(y.rows(0, 4, 1), 10);
        due(y.rows(0, 4, 2), SPENT);
        // two readings of a row are one row
        GrammarTools z = new GrammarTools();
        form(z, 0, 0, 20);
        form(z, 0, 0, 20);
        form(z, 0, 0, 60, 60);
        due(z.rows(0, 0, 1), 1);
        due(z.rows(0, 0, 4), 1);
        of(21);
        due(x.two(0, 4, NONE), 0);
        due(x.two(0, 4, 0), NONE);
        form(x, 0, 0, 60, 0, 60);
        due(x.two(0, 2, NONE), 0);
        due(x.two(0, 3, NONE), 3);
        due(x.two(0, 4, NONE), 3);
        int[] first = {20, 0, 20};
        for (int i = 0; i < 3; i++) {
            due(x.two(0, 4, i), first[i]);
        }
        due(x.two(0, 4, 3), NONE);
        due(x.two(0, 4, -2), NONE);
        due(x.two(0, 0, 0), OUTSIDE);
        due(x.two(0, 5, 0), OUTSIDE);
        due(x.two(2, 9, 0), UNKNOWN);
        due(y.two(0, 2, NONE), SPENT);
        due(y.two(0, 1, NONE), 0);
        // words go ahead of names, names ahead of numbers
        GrammarTools w = new GrammarTools();
        for (int i = 0; i < 2; i++) {
            form(w, 0, 0, 40, 11);
            form(w, 0, 0, 20, 40);
            form(w, 0, 0, 20, 20);
        }
        due(w.two(0, 4, NONE), 2);
        due(w.two(0, 4, 0), 20);
        due(w.two(0, 4, 1), 20);
        form(w, 0, 0, 11, 40);
        form(w, 0, 0, 11, 40);
        due(w.two(0, 4, 0), 11);
        due(w.two(0, 4, 1), 40);
        form(w, 0, 1, 3);
        form(w, 0, 1, 3);
        due(w.two(0, 4, NONE), 2);
    }

    private static void prices() {
        of(22);
        GrammarTools x = sums();
        due(x.price(0, 0), 1);
        text(x, 0, 41);
        due(x.price(0, 0), 0);
        text(x, 0, 41, 0, 42);
        due(x.price(0, 0), 0);
        text(x, 0, 41, 0, 0, 42);
        due(x.price(0, 0), 1);
        text(x, 0, 0);
        due(x.price(0, 0), 1);
        text(x, 0, 0, 0);
        due(x.price(0, 0), 2);
        text(x, 0, 2, 41);
        due(x.price(0, 0), 1);
        text(x, 0, 6, 6, 6, 6, 6, 6, 6, 6, 6, 6, 6, 6, 6, 6, 6, 6);
        due(x.price(0, 0), 16);
        due(x.price(1, 0), NOT);
        form(x, 1, 1, 20);
        due(x.price(1, 0), NOT);
        form(x, 1, 0, 60, 61);
        due(x.price(1, 0), NOT);
        form(x, 1, 0, 1, 2, 3);
        due(x.price(1, 1), 3);
        text(x, 1, 3, 2, 1);
        due(x.price(1, 1), 2);
        text(x, 1, 3, 1);
        due(x.price(1, 1), 3);
        GrammarTools chain = sortChain();
        due(chain.price(0, 0), 1);
        text(chain, 0, 5, 5);
        due(chain.price(0, 0), 1);
        // sorts that wait for lesser ones: a row of word 1 alone is all the others' but five words'
        GrammarTools w = new GrammarTools();
        form(w, 0, 0, 65, 5);
        form(w, 0, 5, 64, 4);
        form(w, 0, 4, 63, 3);
        form(w, 0, 3, 62, 2);
        form(w, 0, 2, 61, 0);
        form(w, 0, 1, 1);
        due(w.price(0, 0), 6);
        text(w, 0, 1);
        due(w.price(0, 0), 5);
        due(x.price(2, 0), UNKNOWN);
        due(x.price(0, 8), UNKNOWN);
        due(x.price(-1, -1), UNKNOWN);
    }

    private static void mendings() {
        of(23);
        GrammarTools x = sums();
        due(x.mend(0, 0, 0), 2);
        spelled(x, 0, 40);
        due(x.node(0, 1, 0), 2);
        text(x, 0, 41, 0, 0, 42);
        due(x.price(0, 0), 1);
        due(x.mend(0, 0, 1), 4);
        spelled(x, 1, 41, 0, 42);
        // word 0 in the place of word 3
        text(x, 0, 2, 41, 0, 0, 42);
        due(x.price(0, 0), 1);
        due(x.mend(0, 0, 1), 6);
        spelled(x, 1, 2, 41, 3, 0, 42);
        text(x, 0, 41, 0, 42);
        due(x.mend(0, 0, 2), 4);
        spelled(x, 2, 41, 0, 42);
        text(x, 0, 6, 42, 41, 43);
        due(x.mend(0, 0, 3), 4);
        spelled(x, 3, 42, 0, 43);
        text(x, 0, 6, 42, 41);
        due(x.mend(0, 0, 3), 2);
        spelled(x, 3, 42);
        due(x.mend(1, 0, 3), NOT);
        due(x.mend(0, 0, 12), UNKNOWN);
        due(x.mend(0, 0, -1), UNKNOWN);
        due(x.mend(2, 0, 0), UNKNOWN);
        due(x.mend(0, 8, 0), UNKNOWN);
        spelled(x, 3, 42);
        // the first part is as short as can be with that price: word 1 takes nothing of the row
        GrammarTools y = new GrammarTools();
        form(y, 0, 0, 20, 20);
        text(y, 0, 25);
        due(y.price(0, 0), 1);
        due(y.mend(0, 0, 0), 1);
        spelled(y, 0, 20, 25);
        text(y, 0, 25, 6, 26);
        due(y.mend(0, 0, 0), 1);
        spelled(y, 0, 25, 26);
        // names and numbers that are missing are name 0 and number 0
        form(y, 1, 0, 1, 20, 40);
        due(y.mend(1, 1, 1), 1);
        spelled(y, 1, 1, 20, 40);
        // a form of 41 nodes at least
        GrammarTools z = new GrammarTools();
        form(z, 0, 0, 61, 61, 61, 61, 61);
        form(z, 0, 1, 62, 62, 62, 62);
        form(z, 0, 2, 63, 63);
        form(z, 0, 3, 20);
        due(z.price(0, 0), 40);
        due(z.mend(0, 0, 0), LARGE);
        due(z.count(2), 0);
    }

    // ---- trees

    private static void trees() {
        sizesAndNodes();
        slotsAndLeaves();
        writtenTrees();
        keptTrees();
    }

    private static void sizesAndNodes() {
        of(24);
        GrammarTools x = sums();
        tree(x, 0, 41, 0, 2, 20, 0, 42, 3);
        due(x.size(0, 0), 8);
        due(x.size(0, 1), 3);
        due(x.size(0, 2), 7);
        due(x.size(0, 3), 0);
        form(x, 1, 0, 1, 1);
        treeOf(x, 1, 11, 1, 1);
        due(x.size(11, 0), 1);
        due(x.size(11, 1), 0);
        due(x.size(11, 2), 2);
        due(x.size(11, 3), 1);
        due(x.size(0, 4), OUTSIDE);
        due(x.size(0, -1), OUTSIDE);
        due(x.size(1, 0), UNKNOWN);
        due(x.size(12, 9), UNKNOWN);
        due(x.size(-1, 0), UNKNOWN);
        of(25);
        // 0: sum (1: part (2: number), 3: brackets (4: sum (5: part (6: name), 7: number)))
        int[] forms = {1, 0, 2, 4, 1, 0, 3, 2};
        int[] ups = {NONE, 0, 1, 0, 3, 4, 5, 4};
        int[] within = {8, 2, 1, 5, 4, 2, 1, 1};
        for (int n = 0; n < 8; n++) {
            due(x.node(0, n, 0), forms[n]);
            due(x.node(0, n, 1), ups[n]);
            due(x.node(0, n, 2), within[n]);
            due(x.node(0, n, 3), 0);
        }
        x.pin(0, 4, 2);
        due(x.node(0, 4, 3), 2);
        due(x.node(0, 4, 4), OUTSIDE);
        due(x.node(0, 4, -1), OUTSIDE);
        due(x.node(0, 8, 0), UNKNOWN);
        due(x.node(0, -1, 0), UNKNOWN);
        due(x.node(1, 0, 9), UNKNOWN);
        due(x.node(12, 0, 0), UNKNOWN);
    }

    private static void slotsAndLeaves() {
        of(26);
        GrammarTools x = sums();
        tree(x, 0, 41, 0, 4, 20, 5, 42);
        // 0: sum (1: part (2: number 1), 3: form 5 (name 0, 4: part (5: number 2)))
        due(x.slot(0, 0, 0), 1001);
        due(x.slot(0, 0, 1), 1003);
        due(x.slot(0, 1, 0), 1002);
        due(x.slot(0, 2, 0), 41);
        due(x.slot(0, 3, 0), 20);
        due(x.slot(0, 3, 1), 1004);
        due(x.slot(0, 5, 0), 42);
        due(x.slot(0, 0, 2), OUTSIDE);
        due(x.slot(0, 0, -1), OUTSIDE);
        due(x.slot(0, 2, 1), OUTSIDE);
        due(x.slot(0, 6, 0), UNKNOWN);
        due(x.slot(0, -1, 0), UNKNOWN);
        due(x.slot(1, 0, 9), UNKNOWN);
        of(27);
        int[] codes = {41, 20, 42};
        int[] nodes = {2, 3, 5};
        for (int l = 0; l < 3; l++) {
            due(x.leaf(0, l, 0), codes[l]);
            due(x.leaf(0, l, 1), nodes[l]);
            due(x.leaf(0, l, 2), 0);
        }
        form(x, 1, 0, 7, 20, 7, 40, 20);
        treeOf(x, 1, 1, 7, 35, 7, 139, 22);
        due(x.leaf(1, 0, 2), 0);
        due(x.leaf(1, 1, 2), 1);
        due(x.leaf(1, 2, 2), 2);
        due(x.leaf(1, 1, 0), 139);
        due(x.leaf(1, 2, 1), 0);
        due(x.leaf(0, 0, 3), OUTSIDE);
        due(x.leaf(0, 0, -1), OUTSIDE);
        due(x.leaf(0, 3, 0), UNKNOWN);
        due(x.leaf(0, -1, 9), UNKNOWN);
        due(x.leaf(2, 0, 0), UNKNOWN);
        due(x.leaf(-1, 0, 0), UNKNOWN);
    }

    private static void writtenTrees() {
        of(28);
        GrammarTools x = sums();
        tree(x, 0, 41, 0, 4, 20, 5, 2, 42, 3);
        spelled(x, 0, 41, 0, 4, 20, 5, 2, 42, 3);
        due(x.spell(0, -1), NONE);
        due(x.spell(0, MAX), NONE);
        due(x.spell(1, 0), UNKNOWN);
        due(x.spell(12, 0), UNKNOWN);
        due(x.spell(-1, 0), UNKNOWN);
        of(29);
        text(x, 3, 6, 6, 6);
        due(x.write(0, 3), 8);
        due(x.at(3, 0), 41);
        due(x.at(3, 7), 3);
        due(x.at(3, 8), NONE);
        due(x.write(0, 8), UNKNOWN);
        due(x.write(0, -1), UNKNOWN);
        due(x.write(1, 3), UNKNOWN);
        GrammarTools y = pairs();
        int[] sixteen = {2, 2, 2, 2, 2, 2, 2, 20, 20, 20, 20, 20, 20, 20, 20};
        due(tree(y, 0, sixteen), 15);
        text(y, 2, 6);
        due(y.write(0, 2), 15);
        show(y, row(20), row(2, 20, 21));
        y.find(0);
        due(y.apply(0, 0, 1), 8);
        due(y.size(1, 2), 31);
        due(y.write(1, 2), LARGE);
        due(y.at(2, 14), 20);
        tree(y, 2, 3, 20, 40, 40);
        due(y.write(2, 2), 4);
        due(y.at(2, 4), NONE);
        form(y, 1, 0, 1, 2, 3, 4, 5);
        form(y, 1, 0, 60, 60, 60, 6);
        treeOf(y, 1, 3, 1, 2, 3, 4, 5, 1, 2, 3, 4, 5, 1, 2, 3, 4, 5);
        due(y.write(3, 4), UNKNOWN);
        treeOf(y, 1, 3, 1, 2, 3, 4, 5);
        due(y.write(3, 4), 5);
        // just sixteen
        form(y, 0, 0, 4, 60);
        tree(y, 4, 4, 2, 2, 2, 2, 2, 2, 2, 20, 20, 20, 20, 20, 20, 20, 20);
        due(y.write(4, 5), 16);
        due(y.at(5, 15), 20);
    }

    private static void keptTrees() {
        of(30);
        GrammarTools x = sums();
        tree(x, 0, 41, 0, 42);
        x.pin(0, 1, 1);
        due(x.keep(5, 0), 4);
        spelled(x, 5, 41, 0, 42);
        due(x.node(5, 1, 3), 0);
        due(x.node(0, 1, 3), 1);
        due(x.keep(0, 0), 4);
        due(x.node(0, 1, 3), 0);
        tree(x, 0, 43);
        spelled(x, 5, 41, 0, 42);
        due(x.keep(5, 1), UNKNOWN);
        due(x.keep(12, 0), UNKNOWN);
        due(x.keep(-1, 0), UNKNOWN);
        due(x.keep(1, 12), UNKNOWN);
        of(31);
        due(x.strike(5), 4);
        due(x.strike(5), UNKNOWN);
        due(x.size(5, 0), UNKNOWN);
        due(x.size(0, 0), 2);
        due(x.strike(12), UNKNOWN);
        due(x.strike(-1), UNKNOWN);
        due(x.count(2), 1);
        of(32);
        tree(x, 1, 41, 0, 42, 0, 41);
        // 0: sum (1: sum (2: part (3: number), 4: number), 5: number)
        due(x.like(1, 3, 1, 5), 1);
        due(x.like(1, 3, 1, 4), 0);
        due(x.like(1, 0, 1, 0), 1);
        due(x.like(1, 0, 1, 1), 0);
        tree(x, 2, 41, 0, 42);
        due(x.like(2, 0, 1, 1), 1);
        due(x.like(1, 1, 2, 0), 1);
        tellSums(x, 1);
        treeOf(x, 1, 3, 41, 0, 42);
        due(x.like(2, 0, 3, 0), 0);
        due(x.like(3, 0, 3, 0), 1);
        due(x.like(1, 6, 1, 0), UNKNOWN);
        due(x.like(1, 0, 1, -1), UNKNOWN);
        due(x.like(9, 0, 1, 0), UNKNOWN);
        due(x.like(1, 0, 12, 0), UNKNOWN);
    }

    // ---- the setting

    private static void theSetting() {
        pins();
        layings();
        manySoftNodes();
    }

    private static void pins() {
        of(33);
        GrammarTools x = sums();
        tree(x, 0, 41, 0, 42);
        due(x.pin(0, 3, 1), 0);
        due(x.pin(0, 3, 2), 1);
        due(x.pin(0, 3, 0), 2);
        due(x.pin(0, 0, 0), 0);
        due(x.pin(0, 0, 3), OUTSIDE);
        due(x.pin(0, 0, -1), OUTSIDE);
        due(x.pin(0, 4, 1), UNKNOWN);
        due(x.pin(0, -1, 9), UNKNOWN);
        due(x.pin(1, 0, 1), UNKNOWN);
        due(x.pin(12, 0, 1), UNKNOWN);
        x.pin(0, 1, 1);
        tree(x, 0, 41, 0, 42);
        due(x.node(0, 1, 3), 0);
    }

    /** x of 41 0 2 20 0 51 3, with a soft gap behind the first item of each sum, none ahead of brackets. */
    private static GrammarTools softSums() {
        GrammarTools x = sums();
        x.gap(0, 1, 0, 2);
        x.gap(0, 4, 0, 0);
        x.gap(0, 4, 1, 0);
        tree(x, 0, 41, 0, 2, 20, 0, 51, 3);
        return x;
    }

    private static void layings() {
        of(34);
        GrammarTools x = softSums();
        // "1 www wwwNN www 11www": 21 columns
        due(x.lay(0, 60, 0), 1);
        due(x.lay(0, 60, 1), 1);
        due(x.lay(0, 60, 2), 0);
        due(x.lay(0, 60, 3), 21);
        due(x.lay(0, 21, 0), 1);
        // "1 www wwwNN" and "  www 11www" with the inner sum open, or "1" and "  www wwwNN www 11www"
        due(x.lay(0, 20, 0), 2);
        due(x.lay(0, 20, 1), 2);
        due(x.lay(0, 20, 2), 2);
        due(x.lay(0, 20, 3), 11);
        // 10 columns: the inner one alone 2 and 10 and 10; both 3 and 10 and 30; none 1 and 110
        due(x.lay(0, 10, 0), 22);
        due(x.lay(0, 10, 2), 2);
        // pins are kept, whatever it costs
        x.pin(0, 0, 1);
        due(x.lay(0, 60, 0), 2);
        due(x.lay(0, 60, 2), 1);
        due(x.lay(0, 60, 3), 21);
        due(x.lay(0, 10, 0), 43);
        due(x.lay(0, 10, 1), 3);
        due(x.lay(0, 10, 3), 13);
        x.pin(0, 0, 2);
        x.pin(0, 4, 2);
        due(x.lay(0, 10, 0), 111);
        due(x.lay(0, 10, 2), 0);
        x.pin(0, 4, 0);
        x.pin(0, 2, 1);
        due(x.lay(0, 60, 2), 0);
        due(x.lay(0, 4, 0), OUTSIDE);
        due(x.lay(0, 61, 0), OUTSIDE);
        due(x.lay(0, 5, 4), OUTSIDE);
        due(x.lay(0, 5, -1), OUTSIDE);
        due(x.lay(1, 1, 9), UNKNOWN);
        due(x.lay(-1, 60, 0), UNKNOWN);
        of(35);
        GrammarTools y = softSums();
        int[] columns = {0, 2, 6, 9, 12, 16, 18};
        for (int i = 0; i < 7; i++) {
            due(y.laid(0, 60, i, 0), 0);
            due(y.laid(0, 60, i, 1), columns[i]);
        }
        int[] lines = {0, 0, 0, 0, 1, 1, 1};
        int[] broken = {0, 2, 6, 9, 2, 6, 8};
        for (int i = 0; i < 7; i++) {
            due(y.laid(0, 20, i, 0), lines[i]);
            due(y.laid(0, 20, i, 1), broken[i]);
        }
        y.pin(0, 0, 1);
        y.pin(0, 4, 1);
        int[] both = {0, 2, 6, 9, 4, 8, 10};
        int[] bothLines = {0, 1, 1, 1, 2, 2, 2};
        for (int i = 0; i < 7; i++) {
            due(y.laid(0, 60, i, 0), bothLines[i]);
            due(y.laid(0, 60, i, 1), both[i]);
        }
        due(y.laid(0, 60, 7, 0), NONE);
        due(y.laid(0, 60, -1, 1), NONE);
        due(y.laid(0, 60, 7, 2), OUTSIDE);
        due(y.laid(0, 4, 7, 0), OUTSIDE);
        due(y.laid(0, 61, 0, 0), OUTSIDE);
        due(y.laid(1, 60, 0, 0), UNKNOWN);
        due(y.laid(12, 60, 0, 0), UNKNOWN);
    }

    private static void manySoftNodes() {
        of(34);
        // word 2 and two things with a soft gap between the two: seven such nodes, in one another
        GrammarTools x = pairs();
        x.gap(0, 2, 1, 2);
        x.length(0, 2, 1);
        tree(x, 0, 2, 20, 2, 20, 2, 20, 2, 20, 2, 20, 2, 20, 2, 20, 20);
        due(x.size(0, 0), 15);
        due(x.lay(0, 60, 0), 1);
        due(x.lay(0, 60, 3), 37);
        // the k-th one alone open: lines of 4 and 5 k, and of 34 less 5 k columns
        due(x.lay(0, 25, 0), 2);
        due(x.lay(0, 25, 2), 1 << 2);
        for (int n = 0; n < 15; n++) {
            x.pin(0, n, 1);
        }
        due(x.lay(0, 60, 2), 127);
        due(x.lay(0, 60, 1), 8);
        tree(x, 1, 20);
        show(x, row(20), row(2, 20, 20));
        x.find(0);
        x.apply(0, 0, 0);
        due(x.size(0, 0), 31);
        for (int n = 0; n < 31; n++) {
            x.pin(0, n, 1);
        }
        // nodes with soft gaps are 15 now; the first eight alone may be open
        due(x.lay(0, 60, 2), 255);
        due(x.lay(0, 60, 1), 9);
    }

    // ---- comparing, joining

    private static void comparing() {
        distances();
        moves();
        joins();
    }

    private static void distances() {
        of(36);
        GrammarTools x = pairs();
        tree(x, 0, 2, 20, 40);
        tree(x, 1, 2, 20, 40);
        due(x.distance(0, 1), 0);
        due(x.distance(0, 0), 0);
        tree(x, 1, 2, 21, 40);
        due(x.distance(0, 1), 1);
        tree(x, 1, 2, 20, 21);
        // number 0 becomes name 1: its node and its leaf
        due(x.distance(0, 1), 2);
        tree(x, 1, 2, 40, 20);
        due(x.distance(0, 1), 4);
        tree(x, 1, 20);
        // two nodes and a leaf go, and the node on top
        due(x.distance(0, 1), 3);
        due(x.distance(1, 0), 3);
        tree(x, 1, 2, 2, 20, 40, 41);
        // one node put in on top, with a node and a leaf aside
        due(x.distance(0, 1), 3);
        tree(x, 1, 3, 20, 20, 40);
        // form 2 becomes form 3, a leaf comes in
        due(x.distance(0, 1), 2);
        form(x, 1, 0, 20);
        form(x, 1, 0, 40);
        form(x, 1, 0, 2, 60, 60);
        treeOf(x, 1, 2, 2, 20, 40);
        due(x.distance(0, 2), 3);
        due(x.distance(2, 0), 3);
        due(x.distance(2, 2), 0);
        due(x.distance(0, 5), UNKNOWN);
        due(x.distance(5, 0), UNKNOWN);
        due(x.distance(12, 0), UNKNOWN);
        due(x.distance(0, -1), UNKNOWN);
        // a chain to the left and one to the right
        tree(x, 3, 2, 2, 2, 2, 20, 20, 20, 20, 20);
        tree(x, 4, 2, 20, 2, 20, 2, 20, 2, 20, 20);
        due(x.distance(3, 4), 6);
        due(x.distance(4, 3), 6);
        due(x.distance(3, 3), 0);
    }

    private static void moves() {
        of(37);
        GrammarTools x = pairs();
        tree(x, 0, 2, 2, 20, 21, 40);
        tree(x, 1, 2, 40, 2, 20, 21);
        // 0: node 1 is (2 20 21); 1: node 2 is so
        due(x.move(0, 1, 0), 1);
        due(x.move(0, 1, 1), 2);
        due(x.move(0, 1, 2), 3);
        due(x.move(1, 0, 0), 2);
        due(x.move(1, 0, 1), 1);
        // not 0 both: a tree and itself have the first node of each part
        due(x.move(0, 0, 0), 1);
        due(x.move(0, 0, 1), 1);
        tree(x, 2, 2, 20, 21);
        due(x.move(0, 2, 0), 1);
        due(x.move(0, 2, 1), 0);
        due(x.move(2, 0, 0), 0);
        due(x.move(2, 0, 1), 1);
        // of like ones the least n, then m
        tree(x, 3, 2, 20, 2, 20, 20);
        due(x.move(3, 3, 0), 2);
        due(x.move(3, 3, 2), 3);
        tree(x, 4, 2, 20, 20);
        tree(x, 5, 2, 41, 20);
        due(x.move(4, 5, 0), 1);
        due(x.move(4, 5, 1), 2);
        due(x.move(5, 4, 0), 2);
        due(x.move(5, 4, 1), 1);
        tree(x, 6, 30);
        for (int what = 0; what < 3; what++) {
            due(x.move(6, 0, what), NONE);
            due(x.move(6, 6, what), NONE);
        }
        form(x, 1, 0, 20);
        treeOf(x, 1, 7, 30);
        due(x.move(6, 7, 2), NONE);
        due(x.move(0, 1, 3), OUTSIDE);
        due(x.move(0, 1, -1), OUTSIDE);
        due(x.move(0, 9, 9), UNKNOWN);
        due(x.move(-1, 0, 0), UNKNOWN);
    }

    private static void joins() {
        of(38);
        GrammarTools x = pairs();
        tree(x, 0, 2, 20, 40);
        tree(x, 1, 2, 21, 40);
        tree(x, 2, 2, 20, 41);
        due(x.join(0, 1, 2, 3), 0);
        spelled(x, 3, 2, 21, 41);
        due(x.join(0, 0, 2, 3), 0);
        spelled(x, 3, 2, 20, 41);
        due(x.join(0, 1, 0, 3), 0);
        spelled(x, 3, 2, 21, 40);
        due(x.join(0, 1, 1, 3), 0);
        spelled(x, 3, 2, 21, 40);
        // l and r change one name otherwise each: b's stands
        tree(x, 4, 2, 22, 40);
        due(x.join(0, 1, 4, 3), 1);
        spelled(x, 3, 2, 20, 40);
        // and one of them makes it another form
        tree(x, 5, 2, 2, 20, 20, 41);
        due(x.join(0, 1, 5, 3), 1);
        spelled(x, 3, 2, 20, 41);
        tree(x, 6, 20);
        tree(x, 7, 21);
        due(x.join(6, 0, 7, 3), 1);
        spelled(x, 3, 20);
        x.pin(0, 0, 1);
        due(x.join(0, 0, 0, 0), 0);
        due(x.node(0, 0, 3), 0);
        form(x, 1, 0, 20);
        treeOf(x, 1, 8, 20);
        due(x.join(0, 0, 8, 3), NOT);
        due(x.join(0, 8, 0, 3), NOT);
        due(x.join(8, 0, 0, 3), NOT);
        due(x.join(0, 0, 8, 12), UNKNOWN);
        due(x.join(0, 0, 0, -1), UNKNOWN);
        due(x.join(9, 0, 0, 3), UNKNOWN);
        due(x.join(0, 9, 0, 3), UNKNOWN);
        due(x.join(0, 0, 9, 3), UNKNOWN);
        spelled(x, 3, 20);
        // each part of 31 nodes alone, in all 63
        GrammarTools y = pairs();
        tree(y, 0, 2, 20, 21);
        y.keep(1, 0);
        y.keep(2, 0);
        show(y, row(20), row(2, 20, 20));
        y.find(0);
        y.hide();
        show(y, row(21), row(2, 21, 21));
        y.find(1);
        for (int i = 0; i < 4; i++) {
            y.apply(0, 1, 1);
            y.apply(1, 2, 2);
        }
        due(y.size(1, 0), 33);
        due(y.size(2, 0), 33);
        due(y.join(0, 1, 2, 1), LARGE);
        due(y.size(1, 0), 33);
        due(y.join(0, 1, 0, 3), 0);
        due(y.size(3, 0), 33);
        // just 40 nodes, and one more
        GrammarTools z = chains();
        tree(z, 1, 3, 20, 21);
        z.keep(2, 1);
        z.keep(3, 1);
        turnOf(z, 1, row(20), row(2, 20));
        turnOf(z, 2, row(21), row(2, 21));
        for (int i = 0; i < 18; i++) {
            z.apply(1, 2, 2);
            z.apply(2, 3, 3);
        }
        z.apply(2, 3, 3);
        due(z.join(1, 2, 3, 4), 0);
        due(z.size(4, 0), 40);
        z.apply(2, 3, 3);
        due(z.join(1, 2, 3, 5), LARGE);
        due(z.size(5, 0), UNKNOWN);
    }

    // ---- names

    private static void names() {
        bounds();
        renames();
    }

    private static void bounds() {
        of(39);
        GrammarTools x = lets();
        // let a = a in (let a = a in a): all uses are behind the outer tell; the inner ones go to the inner tell
        tree(x, 0, 4, 20, 20, 4, 20, 20, 20);
        due(x.bound(0, 0), NOT);
        due(x.bound(0, 1), 0);
        due(x.bound(0, 2), NOT);
        due(x.bound(0, 3), 2);
        due(x.bound(0, 4), 2);
        // out of its scope a tell is not seen
        tree(x, 1, 2, 4, 20, 40, 20, 20);
        due(x.bound(1, 2), 0);
        due(x.bound(1, 3), NONE);
        due(x.bound(1, 1), NOT);
        // form 3 is no scope: seen all through the whole tree, ahead of it, too
        tree(x, 2, 2, 20, 6, 20, 21);
        due(x.bound(2, 0), 1);
        due(x.bound(2, 2), NONE);
        // of like reaches the last one ahead, else the first one behind
        tree(x, 3, 2, 20, 2, 6, 20, 40, 2, 6, 20, 20, 6, 20, 20);
        due(x.bound(3, 0), 1);
        due(x.bound(3, 4), 3);
        due(x.bound(3, 6), 5);
        tree(x, 4, 2, 6, 20, 40, 2, 20, 6, 20, 40);
        due(x.bound(4, 2), 0);
        // a tell seen from behind alone is not seen ahead of it
        x.name(0, 3, 0, 1);
        due(x.bound(2, 0), NONE);
        due(x.bound(3, 0), NONE);
        due(x.bound(3, 4), 3);
        // the innermost reach goes ahead of the nearer tell
        x.name(0, 3, 0, 2);
        tree(x, 5, 4, 20, 40, 2, 6, 21, 40, 20);
        due(x.bound(5, 4), 0);
        tree(x, 6, 2, 6, 20, 40, 4, 20, 40, 2, 20, 40);
        due(x.bound(6, 4), 2);
        due(x.bound(6, 7), UNKNOWN);
        due(x.bound(6, -1), UNKNOWN);
        due(x.bound(11, 0), UNKNOWN);
        due(x.bound(12, 0), UNKNOWN);
        of(40);
        due(x.uses(0, 0), 1);
        due(x.uses(0, 2), 2);
        due(x.uses(0, 1), NOT);
        due(x.uses(1, 0), 1);
        due(x.uses(1, 1), NOT);
        due(x.uses(2, 1), 1);
        due(x.uses(4, 3), 0);
        due(x.uses(0, 5), UNKNOWN);
        due(x.uses(0, -1), UNKNOWN);
        due(x.uses(11, 0), UNKNOWN);
    }

    private static void renames() {
        of(41);
        GrammarTools x = lets();
        // let a = 0 in (let b = a in (a b)): a may not become b, nor b a, but both c
        int[] row = {4, 20, 40, 4, 21, 20, 2, 20, 21};
        tree(x, 0, row);
        x.pin(0, 2, 1);
        due(x.rename(0, 0, 1), -203);
        due(x.rename(0, 2, 0), -203);
        spelled(x, 0, row);
        due(x.rename(0, 0, 2), 1);
        spelled(x, 0, 4, 22, 40, 4, 21, 22, 2, 22, 21);
        due(x.node(0, 2, 3), 1);
        due(x.rename(0, 0, 2), 1);
        due(x.rename(0, 2, 15), 1);
        spelled(x, 0, 4, 22, 40, 4, 35, 22, 2, 22, 35);
        due(x.rename(0, 0, 16), OUTSIDE);
        due(x.rename(0, 0, -1), OUTSIDE);
        due(x.rename(0, 1, 16), OUTSIDE);
        due(x.rename(0, 1, 0), NOT);
        due(x.rename(0, 3, 0), NOT);
        due(x.rename(0, 6, 99), UNKNOWN);
        due(x.rename(0, -1, 0), UNKNOWN);
        due(x.rename(1, 0, 0), UNKNOWN);
        // a use that was bound to none is caught, too
        tree(x, 1, 4, 20, 40, 2, 20, 23);
        due(x.rename(1, 0, 3), -203);
        due(x.rename(1, 0, 4), 1);
        // a use that was elsewhere bound: the outer b is caught by the inner a
        tree(x, 2, 4, 21, 40, 4, 20, 40, 21);
        due(x.rename(2, 2, 1), -204);
        spelled(x, 2, 4, 21, 40, 4, 20, 40, 21);
    }

    // ---- kinds

    private static void kinds() {
        of(42);
        GrammarTools x = lets();
        x.rule(0, 4, NONE, 1);
        x.rule(0, 1, 0, 11);
        x.rule(0, 0, NONE, 10);
        x.rule(0, 1, NONE, 12);
        // let a = 1 in a: nodes 0 let, 1 number, 2 use
        tree(x, 0, 4, 20, 41, 20);
        due(x.kind(0, 0, false), 1);
        due(x.kind(0, 1, false), 1);
        due(x.kind(0, 2, false), 1);
        due(x.kind(0, 0, true), 1);
        due(x.kind(0, 1, true), NONE);
        due(x.kind(0, 2, true), 1);
        due(x.kind(0, 3, false), UNKNOWN);
        due(x.kind(0, 3, true), UNKNOWN);
        due(x.kind(0, -1, true), UNKNOWN);
        due(x.kind(1, 0, false), UNKNOWN);
        due(x.kind(12, 0, true), UNKNOWN);
        // a use that is not bound has no kind
        tree(x, 1, 2, 41, 20);
        due(x.kind(1, 0, false), NONE);
        due(x.kind(1, 1, false), 1);
        due(x.kind(1, 2, false), NONE);
        due(x.blamed(1, NONE), 0);
        x.rule(0, 0, 0, 5);
        due(x.kind(1, 2, false), 5);
        due(x.kind(1, 1, true), 5);
        due(x.kind(0, 0, false), 9);
        due(x.kind(0, 1, true), NONE);
        of(43);
        // held: 0 a alike value, 1 let alike body; 100 number 1; 200 use alike name, 201 name 5; 10002
        due(x.blamed(0, NONE), 4);
        int[] blamed = {0, 100, 201, 10002};
        for (int i = 0; i < 4; i++) {
            due(x.blamed(0, i), blamed[i]);
        }
        due(x.blamed(0, 4), NONE);
        due(x.blamed(0, -2), NONE);
        due(x.blamed(1, 0), NONE);
        due(x.blamed(2, NONE), UNKNOWN);
        due(x.blamed(12, NONE), UNKNOWN);
        // a use ahead of its tell, as the first leaf
        GrammarTools z = lets();
        tree(z, 0, 2, 20, 6, 20, 40);
        z.rule(0, 3, 0, 3);
        due(z.kind(0, 0, true), 3);
        z.rule(0, 0, 0, 4);
        due(z.kind(0, 0, true), 9);
        due(z.blamed(0, NONE), 3);
        due(z.blamed(0, 0), 100);
        due(z.blamed(0, 1), 200);
        due(z.blamed(0, 2), 10000);
        // what comes first is let go first: of two rules that say the same the later one is left
        GrammarTools y = pairs();
        y.rule(0, 0, NONE, 0);
        y.rule(0, 0, NONE, 0);
        y.rule(0, 0, NONE, 1);
        y.rule(0, 0, NONE, 1);
        tree(y, 0, 20);
        due(y.kind(0, 0, false), 9);
        due(y.blamed(0, NONE), 2);
        due(y.blamed(0, 0), 1);
        due(y.blamed(0, 1), 3);
        tree(y, 0, 2, 20, 20);
        due(y.blamed(0, NONE), 2);
        due(y.blamed(0, 0), 201);
        due(y.blamed(0, 1), 203);
    }

    // ---- meaning

    private static void meaning() {
        worlds();
        runs();
        acts();
    }

    private static void worlds() {
        of(44);
        GrammarTools x = sums();
        due(x.world(0, 0, 7), 0);
        due(x.world(0, 0, MIN), 7);
        due(x.world(0, 0, UNKNOWN), MIN);
        due(x.world(0, 0, 3), UNKNOWN);
        due(x.world(1, 0, 1), 0);
        due(x.world(3, 15, 5), 0);
        due(x.world(3, 15, 5), 5);
        due(x.world(3, 16, 5), OUTSIDE);
        due(x.world(3, -1, 5), OUTSIDE);
        due(x.world(4, 0, 5), UNKNOWN);
        due(x.world(-1, 99, 5), UNKNOWN);
        due(x.world(0, 0, 3), 3);
        tree(x, 0, 20);
        x.run(0, 0, 9);
        due(x.value(), 3);
        x.run(0, 1, 9);
        due(x.value(), 1);
        x.run(0, 2, 9);
        due(x.value(), 0);
    }

    private static void runs() {
        of(45);
        GrammarTools x = pairs();
        x.mean(0, 2, 1);
        tree(x, 0, 2, 41, 2, 42, 43);
        due(x.run(0, 0, 5), 5);
        due(x.run(0, 3, 1000), 5);
        due(x.run(0, 0, 4), SPENT);
        due(x.run(0, 0, 1), SPENT);
        due(x.run(0, 0, 0), OUTSIDE);
        due(x.run(0, 0, 1001), OUTSIDE);
        due(x.run(0, 0, -1), OUTSIDE);
        due(x.run(0, 4, 0), UNKNOWN);
        due(x.run(0, -1, 9), UNKNOWN);
        due(x.run(1, 0, 9), UNKNOWN);
        due(x.run(12, 0, 9), UNKNOWN);
        of(46);
        due(x.value(), 6);
        tree(x, 1, 50);
        due(x.run(1, 0, 1), 1);
        due(x.value(), 10);
        x.run(0, 0, 4);
        due(x.value(), 10);
        x.run(0, 0, 0);
        due(x.value(), 10);
        x.clear(0);
        due(x.value(), 10);
        due(new GrammarTools().value(), 0);
    }

    private static void worked(GrammarTools x, int fuel, int value) {
        due(x.run(0, 0, 1000), fuel);
        due(x.value(), value);
    }

    private static void acts() {
        of(45);
        GrammarTools x = pairs();
        form(x, 0, 0, 7);
        form(x, 0, 0, 8, 60, 60, 60);
        // 0 the first slot alone
        tree(x, 0, 2, 45, 46);
        worked(x, 2, 5);
        x.mean(0, 2, 1);
        worked(x, 3, 11);
        x.mean(0, 2, 2);
        worked(x, 3, 30);
        x.mean(0, 2, 3);
        worked(x, 3, -1);
        x.mean(0, 2, 4);
        worked(x, 1, 0);
        x.mean(0, 2, 5);
        worked(x, 1, 0);
        x.mean(0, 2, 6);
        worked(x, 1, 7);
        x.mean(0, 2, 7);
        worked(x, 1, 2);
        // without slots
        tree(x, 0, 7);
        int[] without = {0, 0, 1, 0, 0, 0, 7, 0};
        for (int act = 0; act < 8; act++) {
            x.mean(0, 4, act);
            worked(x, 1, without[act]);
        }
        // the first less all the others
        x.mean(0, 5, 3);
        tree(x, 0, 8, 50, 42, 43);
        worked(x, 4, 5);
        // if: the second where the first is 0, else the third
        x.mean(0, 5, 5);
        x.mean(0, 2, 1);
        tree(x, 0, 8, 40, 42, 2, 43, 44);
        worked(x, 3, 2);
        tree(x, 0, 8, 41, 42, 2, 43, 44);
        worked(x, 5, 7);
        // let: form 3 has a name first, form 5 a node
        x.mean(0, 5, 4);
        worked(x, 1, 0);
        x.mean(0, 3, 4);
        x.world(0, 0, 100);
        x.world(0, 1, 50);
        tree(x, 0, 3, 20, 2, 20, 41, 2, 20, 21);
        worked(x, 7, 151);
        tree(x, 0, 3, 20, 45, 2, 3, 20, 20, 2, 20, 20, 20);
        worked(x, 9, 15);
        // values wrap
        x.world(0, 0, MAX);
        tree(x, 0, 2, 20, 41);
        worked(x, 3, MIN);
        x.world(0, 0, 65536);
        x.mean(0, 2, 2);
        tree(x, 0, 2, 20, 20);
        worked(x, 3, 0);
    }

    // ---- turns

    private static void turns() {
        shownPairs();
        found();
        refusedFinds();
        fitting();
        applied();
        laws();
        keptByLaws();
        keptSpent();
        tried();
    }

    private static void shownPairs() {
        of(47);
        GrammarTools x = pairs();
        form(x, 1, 0, 20);
        tree(x, 0, 20);
        tree(x, 1, 21);
        treeOf(x, 1, 2, 20);
        due(x.show(0, 2), NOT);
        due(x.show(2, 0), NOT);
        due(x.count(3), 0);
        due(x.show(0, 1), 1);
        due(x.show(2, 2), NOT);
        due(x.show(1, 1), 2);
        due(x.show(0, 0), 3);
        due(x.show(0, 1), 4);
        due(x.show(0, 1), FULL);
        due(x.show(2, 2), NOT);
        due(x.show(3, 0), UNKNOWN);
        due(x.show(0, 3), UNKNOWN);
        due(x.show(12, -1), UNKNOWN);
        due(x.count(3), 4);
        of(48);
        due(x.hide(), 4);
        due(x.hide(), 0);
        due(x.count(3), 0);
        due(x.show(2, 2), 1);
        due(x.show(0, 0), NOT);
        due(x.hide(), 1);
        // what is shown stays as it was
        due(x.show(0, 1), 1);
        tree(x, 0, 40);
        x.strike(1);
        due(x.find(0), 0);
        turnedTo(x, 0, 0, 20);
        turnedTo(x, 0, 1, 21);
    }

    private static void found() {
        of(49);
        GrammarTools x = pairs();
        show(x, row(2, 20, 40), row(2, 40, 20));
        due(x.find(0), 0);
        turnedTo(x, 0, 0, 2, 20, 40);
        turnedTo(x, 0, 1, 2, 40, 20);
        // names unlike: a hole for the leaf; a number and a pair of names: a hole for the node
        show(x, row(2, 21, 2, 20, 20), row(2, 2, 20, 20, 21));
        due(x.find(0), 2);
        turnedTo(x, 0, 0, 2, 200, 201);
        of(50);
        turnedTo(x, 0, 1, 2, 201, 200);
        due(x.turned(0, 0, -1), NONE);
        due(x.turned(0, 2, 0), OUTSIDE);
        due(x.turned(0, -1, 0), OUTSIDE);
        due(x.turned(1, 0, 0), UNKNOWN);
        due(x.turned(6, 9, 0), UNKNOWN);
        due(x.turned(-1, 0, 0), UNKNOWN);
        of(49);
        due(x.count(4), 1);
        // a like row of pieces is the same hole
        x.hide();
        show(x, row(3, 20, 20, 2, 20, 40), row(40));
        show(x, row(3, 21, 21, 2, 21, 41), row(41));
        due(x.find(5), 2);
        turnedTo(x, 5, 0, 3, 200, 200, 2, 200, 201);
        turnedTo(x, 5, 1, 201);
        x.hide();
        show(x, row(3, 20, 20, 2, 20, 40), row(20));
        show(x, row(3, 21, 21, 2, 21, 40), row(21));
        due(x.find(5), 1);
        turnedTo(x, 5, 0, 3, 200, 200, 2, 200, 40);
        turnedTo(x, 5, 1, 200);
        // an after may be a hole alone
        x.hide();
        show(x, row(2, 20, 40), row(20));
        show(x, row(2, 2, 20, 21, 40), row(2, 20, 21));
        due(x.find(5), 1);
        turnedTo(x, 5, 0, 2, 200, 40);
        turnedTo(x, 5, 1, 200);
        due(x.law(5, true), 0);
        due(x.find(5), 1);
        due(x.law(5, false), 0);
    }

    private static void refusedFinds() {
        of(49);
        GrammarTools x = pairs();
        due(x.find(0), NOT);
        due(x.find(6), UNKNOWN);
        due(x.find(-1), UNKNOWN);
        show(x, row(20), row(21));
        due(x.find(0), 0);
        // the before is a hole alone
        show(x, row(2, 20, 20), row(2, 20, 20));
        due(x.find(0), NOT);
        turnedTo(x, 0, 0, 20);
        // an after's row of pieces is not in the befores
        x.hide();
        show(x, row(2, 20, 40), row(2, 20, 40));
        show(x, row(2, 21, 40), row(2, 22, 40));
        due(x.find(0), NOT);
        turnedTo(x, 0, 1, 21);
        // sixteen holes at most
        GrammarTools y = new GrammarTools();
        form(y, 0, 0, 40);
        form(y, 0, 0, 60, 60);
        form(y, 0, 0, 61, 61, 61, 61);
        form(y, 0, 1, 40, 40, 40, 40);
        tree(y, 0, 40, 41, 42, 43, 44, 45, 46, 47, 48, 49, 50, 51, 52, 53, 54, 55);
        due(y.size(0, 0), 31);
        GrammarTools z = new GrammarTools();
        form(z, 0, 0, 61, 61, 61, 61);
        form(z, 0, 1, 40, 40, 40, 40);
        due(tree(z, 0, 40, 41, 42, 43, 44, 45, 46, 47, 48, 49, 50, 51, 52, 53, 54, 55), 5);
        due(tree(z, 1, 60, 61, 62, 63, 64, 65, 66, 67, 68, 69, 70, 71, 72, 73, 74, 75), 5);
        z.show(0, 0);
        z.show(1, 1);
        due(z.find(0), 16);
        due(z.turned(0, 1, 15), 215);
        // seventeen: as many numbers again put in for one of them
        GrammarTools w = new GrammarTools();
        form(w, 0, 0, 40);
        form(w, 0, 0, 2, 60, 60);
        tree(w, 0, 2, 40, 2, 41, 2, 42, 2, 43, 2, 44, 2, 45, 2, 46, 47);
        tree(w, 1, 2, 50, 2, 51, 2, 52, 2, 53, 2, 54, 2, 55, 2, 56, 57);
        due(w.size(0, 1), 8);
        grow(w, 0, 40, 60);
        grow(w, 0, 41, 70);
        grow(w, 0, 42, 80);
        grow(w, 1, 50, 90);
        grow(w, 1, 51, 100);
        grow(w, 1, 52, 110);
        due(w.size(0, 1), 17);
        tree(w, 2, 40);
        w.hide();
        w.show(0, 2);
        w.show(1, 2);
        due(w.find(1), NOT);
        due(w.turned(1, 0, 0), UNKNOWN);
    }

    /** Puts four numbers in for one. */
    private static void grow(GrammarTools w, int tree, int number, int by) {
        w.hide();
        show(w, row(number), row(2, by, 2, by + 1, 2, by + 2, by + 3));
        w.find(0);
        w.apply(0, tree, tree);
    }

    private static void fitting() {
        of(51);
        GrammarTools x = pairs();
        show(x, row(2, 20, 20), row(20));
        show(x, row(2, 40, 40), row(40));
        x.find(0);
        tree(x, 0, 2, 2, 21, 21, 2, 21, 21);
        due(x.fits(0, 0), 3);
        tree(x, 1, 2, 2, 21, 21, 2, 21, 22);
        due(x.fits(0, 1), 1);
        tree(x, 2, 20);
        due(x.fits(0, 2), 0);
        form(x, 1, 0, 20);
        treeOf(x, 1, 3, 20);
        due(x.fits(0, 3), 0);
        due(x.fits(1, 0), UNKNOWN);
        due(x.fits(6, 0), UNKNOWN);
        due(x.fits(-1, 0), UNKNOWN);
        due(x.fits(0, 4), UNKNOWN);
        due(x.fits(0, 12), UNKNOWN);
    }

    private static void applied() {
        of(52);
        GrammarTools x = pairs();
        show(x, row(2, 20, 40), row(2, 40, 20));
        show(x, row(2, 40, 20), row(2, 20, 40));
        x.find(0);
        turnedTo(x, 0, 0, 2, 200, 201);
        // the outer one first, and nothing within
        tree(x, 0, 2, 2, 20, 21, 22);
        due(x.apply(0, 0, 1), 1);
        spelled(x, 1, 2, 22, 2, 20, 21);
        tree(x, 0, 3, 20, 2, 20, 21, 2, 2, 40, 41, 42);
        due(x.apply(0, 0, 1), 2);
        spelled(x, 1, 3, 20, 2, 21, 20, 2, 42, 2, 40, 41);
        x.pin(1, 0, 1);
        due(x.apply(0, 1, 1), 2);
        spelled(x, 1, 3, 20, 2, 20, 21, 2, 2, 40, 41, 42);
        due(x.node(1, 0, 3), 0);
        tree(x, 2, 20);
        due(x.apply(0, 2, 3), 0);
        spelled(x, 3, 20);
        form(x, 1, 0, 20);
        treeOf(x, 1, 4, 20);
        due(x.apply(0, 4, 3), NOT);
        due(x.apply(0, 4, 12), UNKNOWN);
        due(x.apply(0, 0, -1), UNKNOWN);
        due(x.apply(0, 9, 0), UNKNOWN);
        due(x.apply(1, 0, 0), UNKNOWN);
        due(x.apply(6, 0, 0), UNKNOWN);
        // two for one, again and again: 1, 3, 7, 15, 31 nodes, then 63
        x.hide();
        show(x, row(20), row(2, 20, 20));
        x.find(1);
        tree(x, 5, 20);
        for (int n = 1; n < 31; n = 2 * n + 1) {
            due(x.apply(1, 5, 5), (n + 1) / 2);
            due(x.size(5, 0), 2 * n + 1);
        }
        due(x.apply(1, 5, 6), LARGE);
        due(x.size(6, 0), UNKNOWN);
        due(x.size(5, 0), 31);
        // one more at a time, up to 40 nodes
        GrammarTools y = chains();
        for (int n = 2; n < 40; n++) {
            due(y.apply(0, 0, 0), 1);
        }
        due(y.size(0, 0), 40);
        due(y.apply(0, 0, 1), LARGE);
        due(y.size(1, 0), UNKNOWN);
    }

    private static void laws() {
        of(53);
        GrammarTools x = pairs();
        show(x, row(20), row(21));
        x.find(2);
        due(x.count(5), 0);
        due(x.law(2, true), 0);
        due(x.law(2, true), 1);
        due(x.count(5), 1);
        due(x.law(2, false), 1);
        due(x.law(2, false), 0);
        due(x.count(5), 0);
        due(x.law(0, true), UNKNOWN);
        due(x.law(6, true), UNKNOWN);
        due(x.law(-1, true), UNKNOWN);
    }

    private static void swapLaw(GrammarTools x, int turn) {
        x.hide();
        show(x, row(2, 20, 40), row(2, 40, 20));
        show(x, row(2, 40, 20), row(2, 20, 40));
        x.find(turn);
        x.law(turn, true);
    }

    private static void keptByLaws() {
        of(54);
        GrammarTools x = pairs();
        swapLaw(x, 0);
        due(x.kept(0), NONE);
        turnOf(x, 1, row(2, 20, 21), row(2, 20, 21));
        due(x.kept(1), 0);
        turnOf(x, 1, row(2, 20, 21), row(2, 21, 20));
        due(x.kept(1), 1);
        turnOf(x, 1, row(2, 20, 2, 21, 22), row(2, 2, 22, 21, 20));
        due(x.kept(1), 2);
        turnOf(x, 1, row(2, 20, 21), row(2, 20, 22));
        due(x.kept(1), NONE);
        // with holes: they are leaves of their own
        x.hide();
        show(x, row(2, 20, 21), row(2, 21, 20));
        show(x, row(2, 22, 23), row(2, 23, 22));
        due(x.find(1), 2);
        due(x.kept(1), 1);
        // a law that is no law any more, and one of another telling
        x.law(0, false);
        due(x.kept(1), NONE);
        // a way back: from its after to its before
        turnOf(x, 2, row(2, 20, 20), row(30));
        x.law(2, true);
        turnOf(x, 3, row(30), row(2, 20, 20));
        due(x.kept(3), 1);
        turnOf(x, 3, row(2, 30, 40), row(2, 2, 20, 20, 40));
        due(x.kept(3), 1);
        // no way back where a hole would be lost
        x.hide();
        show(x, row(2, 20, 40), row(40));
        show(x, row(2, 21, 40), row(40));
        due(x.find(2), 1);
        x.law(2, true);
        turnOf(x, 3, row(40), row(2, 20, 40));
        due(x.kept(3), NONE);
        turnOf(x, 3, row(2, 20, 40), row(40));
        due(x.kept(3), 1);
        // an after that is a hole alone goes back at each node
        x.hide();
        show(x, row(2, 40, 20), row(20));
        show(x, row(2, 40, 41), row(41));
        due(x.find(2), 1);
        x.law(2, true);
        turnOf(x, 3, row(2, 20, 21), row(2, 2, 40, 20, 21));
        due(x.kept(3), 1);
        turnOf(x, 3, row(20), row(2, 40, 2, 40, 20));
        due(x.kept(3), 2);
        due(x.kept(4), UNKNOWN);
        due(x.kept(6), UNKNOWN);
        due(x.kept(-1), UNKNOWN);
    }

    private static void keptSpent() {
        of(54);
        GrammarTools x = pairs();
        // each step puts word 2 and number 0 ahead of any node: more than 60 trees soon
        show(x, row(2, 40, 20), row(20));
        show(x, row(2, 40, 41), row(41));
        x.find(0);
        x.law(0, true);
        turnOf(x, 1, row(2, 20, 21), row(2, 21, 20));
        due(x.kept(1), SPENT);
        GrammarTools y = new GrammarTools();
        form(y, 0, 0, 20);
        form(y, 0, 0, 2, 60);
        show(y, row(2, 20), row(20));
        show(y, row(2, 2, 20), row(2, 20));
        y.find(0);
        y.law(0, true);
        // one tree a step: trees of more than 40 nodes are left out, so that is the end of the way
        turnOf(y, 1, row(20), row(21));
        due(y.kept(1), NONE);
        turnOf(y, 1, row(20), row(2, 2, 2, 2, 2, 20));
        due(y.kept(1), 5);
        // the first tree has eight sums that change their sides: 256 trees
        GrammarTools z = pairs();
        swapLaw(z, 0);
        turnOf(z, 1, row(2, 20, 2, 21, 2, 22, 2, 23, 2, 24, 2, 25, 26), row(2, 20, 2, 21, 2, 22, 2, 23, 2, 24, 2, 26, 25));
        due(z.kept(1), 1);
        turnOf(z, 1, row(2, 20, 2, 21, 2, 22, 2, 23, 2, 24, 2, 25, 26), row(2, 2, 2, 2, 2, 2, 26, 25, 24, 23, 22, 21, 20));
        due(z.kept(1), SPENT);
        // five sums: 32 trees are all sought, and the last one is found in five steps
        turnOf(z, 1, row(2, 20, 2, 21, 2, 22, 2, 23, 2, 24, 25), row(2, 2, 2, 2, 2, 25, 24, 23, 22, 21, 20));
        due(z.kept(1), 5);
        turnOf(z, 1, row(2, 20, 2, 21, 2, 22, 2, 23, 2, 24, 25), row(30));
        due(z.kept(1), NONE);
    }

    private static void tried() {
        of(55);
        GrammarTools x = pairs();
        x.hide();
        show(x, row(2, 20, 40), row(2, 40, 20));
        show(x, row(2, 40, 20), row(2, 20, 40));
        x.find(0);
        for (int w = 0; w < 4; w++) {
            x.world(w, 0, w + 2);
            x.world(w, 1, w + 2);
        }
        due(x.tried(0), 1);
        x.world(3, 1, 7);
        due(x.tried(0), 0);
        x.mean(0, 2, 1);
        due(x.tried(0), 1);
        x.mean(0, 2, 3);
        due(x.tried(0), 0);
        x.world(3, 1, 5);
        due(x.tried(0), 1);
        // a hole is no name for let: nothing is worked
        x.mean(0, 3, 4);
        x.hide();
        show(x, row(3, 20, 40, 41), row(40));
        show(x, row(3, 21, 40, 41), row(40));
        due(x.find(1), 1);
        due(x.tried(1), 1);
        turnOf(x, 1, row(3, 20, 40, 41), row(40));
        due(x.tried(1), 0);
        due(x.value(), 0);
        due(x.tried(2), UNKNOWN);
        due(x.tried(6), UNKNOWN);
        due(x.tried(-1), UNKNOWN);
    }

    // ---- carrying

    private static void carrying() {
        maps();
        carried();
    }

    private static void maps() {
        of(56);
        GrammarTools x = new GrammarTools();
        form(x, 0, 0, 20, 40, 60, 61, 20);
        form(x, 0, 1, 1);
        form(x, 1, 0, 60, 20);
        form(x, 1, 3, 40, 65);
        form(x, 1, 0, 20, 20);
        form(x, 1, 0, 2);
        due(x.map(0, 0, 2, 0, 99, 99, 99), 1);
        due(x.map(0, 0, 3, 4, 0, 0, 0), 1);
        due(x.map(0, 1, 1, 2, 0, 0, 0), 1);
        due(x.map(0, 2, 4, 0, 0, 0, 0), 1);
        due(x.map(1, 3, MIN, 9, 9, 9, 9), 2);
        due(x.map(0, 0, 0, 0, 0, 0, 0), OUTSIDE);
        due(x.map(0, 0, 1, 0, 0, 0, 0), OUTSIDE);
        due(x.map(0, 0, 2, 1, 0, 0, 0), OUTSIDE);
        due(x.map(0, 1, 0, 2, 0, 0, 0), OUTSIDE);
        due(x.map(0, 2, 0, 0, 0, 0, 0), OUTSIDE);
        due(x.map(0, 2, 0, 5, 0, 0, 0), OUTSIDE);
        due(x.map(0, 2, -1, 0, 0, 0, 0), OUTSIDE);
        due(x.map(1, 0, 0, 0, 0, 0, 0), OUTSIDE);
        due(x.map(2, 0, 0, 0, 0, 0, 0), UNKNOWN);
        due(x.map(-1, 0, 0, 0, 0, 0, 0), UNKNOWN);
        due(x.map(0, 4, 99, 0, 0, 0, 0), UNKNOWN);
        due(x.map(0, -1, 0, 0, 0, 0, 0), UNKNOWN);
        due(x.count(6), 2);
        of(57);
        due(x.unmap(0), 1);
        due(x.unmap(0), 0);
        due(x.count(6), 1);
        due(x.unmap(2), UNKNOWN);
        due(x.unmap(-1), UNKNOWN);
        due(x.unmap(1), 1);
        due(x.map(1, 3, 0, 0, 0, 0, 0), 1);
    }

    private static void carried() {
        of(58);
        GrammarTools x = pairs();
        form(x, 1, 0, 20);
        form(x, 1, 0, 1, 40);
        form(x, 1, 0, 61, 5, 60);
        form(x, 1, 1, 60, 60);
        form(x, 1, 1, 20);
        x.map(0, 0, 0, 0, 0, 0, 0);
        x.map(1, 1, 0, 0, 0, 0, 0);
        tree(x, 0, 40);
        due(x.carry(0, 1), 1);
        spelled(x, 1, 1, 40);
        due(x.size(1, 3), 1);
        // the first slot of form 2 there is of sort 1: names do not stand in it as form 0
        x.map(2, 2, 1, 0, 0, 0, 0);
        tree(x, 0, 2, 40, 20);
        due(x.carry(0, 1), NOT);
        spelled(x, 1, 1, 40);
        x.map(0, 4, 0, 0, 0, 0, 0);
        due(x.carry(0, 1), 3);
        spelled(x, 1, 20, 5, 1, 40);
        // but now a name alone is of sort 1
        tree(x, 2, 20);
        due(x.carry(2, 1), NOT);
        // slots may be left out; but all forms need a map
        x.map(3, 0, 0, 0, 0, 0, 0);
        tree(x, 3, 3, 22, 40, 41);
        due(x.carry(3, 4), 1);
        spelled(x, 4, 22);
        x.unmap(1);
        due(x.carry(3, 4), NOT);
        due(x.carry(4, 4), NOT);
        due(x.carry(9, 4), UNKNOWN);
        due(x.carry(3, 12), UNKNOWN);
        due(x.carry(3, -1), UNKNOWN);
        due(x.carry(4, 12), UNKNOWN);
        x.map(1, 1, 0, 0, 0, 0, 0);
        x.pin(3, 0, 1);
        due(x.carry(3, 3), 1);
        due(x.node(3, 0, 3), 0);
        due(x.size(3, 3), 1);
        of(59);
        due(x.left(0), NONE);
        x.unmap(0);
        due(x.left(0), 2);
        x.unmap(1);
        due(x.left(0), 1);
        x.unmap(2);
        due(x.left(0), 0);
        due(x.left(4), NOT);
        due(x.left(9), UNKNOWN);
        due(x.left(12), UNKNOWN);
        due(x.left(-1), UNKNOWN);
    }

    // ---- the teacher, sheets

    private static void teacherAndSheets() {
        hints();
        sheetsMade();
        sheetsCopied();
        sheetsTaken();
        constants();
    }

    private static void hinted(GrammarTools x, int what, int where) {
        due(x.hint(0, 0, 0), what);
        due(x.hint(0, 0, 1), where);
    }

    private static void hints() {
        of(60);
        GrammarTools x = lets();
        hinted(x, 1, NONE);
        text(x, 0, 4, 20);
        hinted(x, 1, NONE);
        text(x, 0, 4, 20, 41, 20);
        hinted(x, 0, NONE);
        text(x, 0, 4, 20, 41, 2, 20, 21);
        hinted(x, 3, 3);
        // kinds: a let's name is alike its value, numbers are of kind 1, uses of kind 2
        x.rule(0, 1, 0, 11);
        x.rule(0, 4, NONE, 1);
        x.rule(0, 0, NONE, 10);
        text(x, 0, 4, 20, 41, 20);
        hinted(x, 0, NONE);
        x.rule(0, 0, 0, 2);
        hinted(x, 4, 0);
        text(x, 0, 4, 20, 41, 2, 20, 21);
        hinted(x, 3, 3);
        form(x, 0, 0, 60, 60);
        text(x, 0, 41, 41, 41);
        hinted(x, 2, NONE);
        due(x.hint(0, 0, 2), OUTSIDE);
        due(x.hint(0, 0, -1), OUTSIDE);
        due(x.hint(2, 0, 9), UNKNOWN);
        due(x.hint(0, 8, 9), UNKNOWN);
        due(x.hint(-1, 0, 0), UNKNOWN);
        GrammarTools deep = new GrammarTools();
        form(deep, 0, 0, 61, 60);
        form(deep, 0, 0, 61);
        form(deep, 0, 1, 62);
        form(deep, 0, 2, 20);
        text(deep, 0, 20, 20, 20, 20, 20, 20, 20, 20, 20, 20, 20, 20, 20);
        hinted(deep, 3, 0);
        deep.name(0, 3, 0, 1);
        hinted(deep, 0, NONE);
        deep.rule(0, 3, 0, 1);
        deep.rule(0, 3, 0, 2);
        hinted(deep, 4, 3800);
        deep.name(0, 3, 0, 0);
        hinted(deep, 3, 0);
        deep.cell(0, 20);
        hinted(deep, LARGE, LARGE);
        due(deep.hint(0, 0, 2), OUTSIDE);
    }

    private static void sheetsMade() {
        of(61);
        GrammarTools x = new GrammarTools();
        due(x.forge(0, 0, 3), 3);
        due(x.forge(3, 3, 40), 40);
        due(x.forge(1, 2, 0), 0);
        due(x.get(0, 2), 0);
        due(x.get(3, 39), 0);
        due(x.get(1, 0), -13);
        due(x.count(7), 3);
        x.set(0, 1, 5);
        due(x.forge(0, 0, 41), OUTSIDE);
        due(x.forge(0, 4, 1), OUTSIDE);
        due(x.forge(0, -1, 1), OUTSIDE);
        due(x.forge(0, 0, -1), -14);
        due(x.forge(0, 0, MIN), -14);
        due(x.forge(4, 0, 1), UNKNOWN);
        due(x.forge(-1, 9, -9), UNKNOWN);
        due(x.get(0, 1), 5);
        due(x.forge(0, 1, 2), 2);
        due(x.get(0, 1), 0);
        due(x.get(0, 2), -13);
        of(62);
        GrammarTools y = new GrammarTools();
        for (int form = 0; form < 4; form++) {
            y.forge(form, form, 2);
        }
        int[] given = {127, 128, 255, 256, -1, -129, 32767, 32768, 65535, 65536, -32769, MAX, MIN};
        int[][] held = {
            {127, -128, -1, 0, -1, 127, -1, 0, -1, 0, -1, -1, 0},
            {127, 128, 255, 256, -1, -129, 32767, -32768, -1, 0, 32767, -1, 0},
            given,
            {127, 128, 255, 256, 65535, 65407, 32767, 32768, 65535, 0, 32767, 65535, 0}};
        for (int form = 0; form < 4; form++) {
            for (int i = 0; i < given.length; i++) {
                due(y.set(form, 1, given[i]), held[form][i]);
                due(y.get(form, 1), held[form][i]);
            }
        }
        due(y.set(0, 2, 1), -13);
        due(y.set(0, -1, 1), -13);
        due(y.set(0, MAX, 1), -13);
        due(x.set(2, 0, 1), -11);
        due(x.set(2, -1, 1), -11);
        due(y.set(4, 0, 1), UNKNOWN);
        due(y.set(-1, 0, 1), UNKNOWN);
        due(y.get(0, 0), 0);
        of(63);
        due(y.get(0, 2), -13);
        due(y.get(0, -1), -13);
        due(x.get(2, 0), -11);
        due(x.get(2, -1), -11);
        due(y.get(4, 0), UNKNOWN);
        due(y.get(-1, 0), UNKNOWN);
        y.set(2, 0, UNKNOWN);
        due(y.get(2, 0), UNKNOWN);
        y.set(2, 0, -11);
        due(y.get(2, 0), -11);
    }

    private static void sheetsCopied() {
        of(64);
        GrammarTools x = new GrammarTools();
        x.forge(0, 0, 5);
        x.forge(1, 0, 3);
        x.forge(2, 2, 5);
        for (int i = 0; i < 5; i++) {
            x.set(0, i, i + 1);
        }
        due(x.copy(0, 1, 1, 0, 3), 1);
        for (int i = 0; i < 3; i++) {
            due(x.get(1, i), i + 2);
        }
        // over itself, either way
        due(x.copy(0, 0, 0, 1, 4), 1);
        int[] right = {1, 1, 2, 3, 4};
        for (int i = 0; i < 5; i++) {
            due(x.get(0, i), right[i]);
        }
        due(x.copy(0, 2, 0, 0, 3), 1);
        int[] back = {2, 3, 4, 3, 4};
        for (int i = 0; i < 5; i++) {
            due(x.get(0, i), back[i]);
        }
        due(x.copy(0, 0, 1, 0, 0), 1);
        due(x.copy(0, 5, 1, 3, 0), 1);
        due(x.copy(0, 6, 1, 0, 0), -13);
        due(x.copy(0, 0, 1, 4, 0), -13);
        due(x.copy(0, 0, 1, 0, 4), -13);
        due(x.copy(1, 0, 0, 0, 4), -13);
        due(x.copy(0, 0, 1, 0, -1), -13);
        due(x.copy(0, -1, 1, 0, 1), -13);
        due(x.copy(0, 0, 1, -1, 1), -13);
        due(x.copy(0, 1, 1, 0, MAX), -13);
        due(x.copy(0, MAX, 1, MAX, MAX), -13);
        due(x.copy(0, MIN, 1, MIN, MIN), -13);
        due(x.copy(0, 0, 2, 0, 1), -12);
        due(x.copy(0, 0, 2, 0, -1), -12);
        due(x.copy(0, 0, 3, 0, 1), -11);
        due(x.copy(3, 0, 2, 9, -1), -11);
        due(x.copy(4, 0, 3, 0, 1), UNKNOWN);
        due(x.copy(0, 0, -1, 0, 1), UNKNOWN);
        for (int i = 0; i < 3; i++) {
            due(x.get(1, i), i + 2);
        }
    }

    private static void sheetsTaken() {
        of(65);
        GrammarTools x = new GrammarTools();
        x.cell(0, 5);
        due(x.take(0, 0), -11);
        x.forge(0, 3, 3);
        int[] codes = {139, 35, 11};
        for (int i = 0; i < 3; i++) {
            x.set(0, i, codes[i]);
        }
        due(x.take(0, 0), 3);
        for (int i = 0; i < 3; i++) {
            due(x.at(0, i), codes[i]);
        }
        due(x.at(0, 3), NONE);
        int[] bad = {12, 19, 36, 39, 140, 65535};
        for (int code : bad) {
            x.set(0, 2, code);
            due(x.take(0, 0), -15);
        }
        due(x.at(0, 2), 11);
        x.forge(1, 2, 17);
        x.set(1, 0, -1);
        due(x.take(0, 1), FULL);
        x.forge(1, 2, 16);
        x.set(1, 15, 40);
        due(x.take(7, 1), 16);
        due(x.at(7, 15), 40);
        x.forge(1, 0, 0);
        due(x.take(7, 1), 0);
        due(x.at(7, 0), NONE);
        x.forge(1, 0, 1);
        x.set(1, 0, 139);
        due(x.take(7, 1), -15);
        due(x.take(8, 3), UNKNOWN);
        due(x.take(-1, 0), UNKNOWN);
        due(x.take(0, 4), UNKNOWN);
        due(x.take(0, -1), UNKNOWN);
        due(x.at(0, 0), 139);
    }

    private static void constants() {
        of(0);
        int[] told = {NONE, UNKNOWN, OUTSIDE, NOT, FULL, SPENT, LARGE};
        int[] wanted = {-1, -100001, -100002, -100003, -100004, -100005, -100006};
        for (int i = 0; i < told.length; i++) {
            due(told[i], wanted[i]);
        }
    }
}
