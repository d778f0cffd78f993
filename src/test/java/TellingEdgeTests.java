/** Promises 1 to 16: each sentence on tellings and texts that names an edge, with a test of its own. */
public final class TellingEdgeTests extends Asking {

    public static void main(String[] args) {
        newObject();
        lengths();
        forms();
        aloneSorts();
        itemsBehindTheEnd();
        fullTelling();
        clearing();
        clearedTellingIsAsAtFirst();
        formsAsked();
        gaps();
        names();
        scopes();
        rules();
        rulesWithoutSlots();
        fullRules();
        unrules();
        means();
        counts();
        cells();
        puts();
        wipes();
        ats();
        end("the edges of tellings and texts hold");
    }

    private static void newObject() {
        GrammarTools x = new GrammarTools();
        of(1, "no FORMS");
        for (int v = 0; v < 2; v++) {
            due(x.count(v), 0);
            due(x.forms(v, 0, 0), UNKNOWN);
            due(x.idle(v), 0);
            due(x.clear(v), 0);
        }
        of(1, "empty TEXTS");
        for (int t = 0; t < 8; t++) {
            due(x.at(t, 0), NONE);
            due(x.put(t, 0, 0), OUTSIDE);
            due(x.readings(0, t), 0);
            due(x.wipe(t), 0);
        }
        of(1, "no TREES");
        due(x.count(2), 0);
        for (int tree = 0; tree < 12; tree++) {
            due(x.strike(tree), UNKNOWN);
        }
        of(1, "all as at first: WORLDS");
        for (int w = 0; w < 4; w++) {
            for (int name = 0; name < 16; name++) {
                due(x.world(w, name, 0), 0);
            }
        }
        of(1, "all as at first: LENGTHS");
        for (int word = 0; word < 12; word++) {
            due(x.length(0, word, 3), 3);
            due(x.length(1, word, 3), 3);
        }
        of(1, "all as at first: TURNS, SHOWN pairs, MAPS, SHEETS, value");
        for (int turn = 0; turn < 6; turn++) {
            due(x.law(turn, true), UNKNOWN);
            due(x.find(turn), NOT);
        }
        for (int s = 0; s < 4; s++) {
            due(x.get(s, 0), -11);
        }
        due(x.hide(), 0);
        due(x.value(), 0);
        for (int what = 3; what < 8; what++) {
            due(x.count(what), 0);
        }
        of(1, "a new object has nothing of an older one");
        form(x, 0, 0, 20);
        x.world(3, 15, 8);
        x.length(1, 11, 9);
        x.forge(3, 0, 1);
        tree(x, 11, 20);
        GrammarTools y = new GrammarTools();
        due(y.count(0), 0);
        due(y.count(2), 0);
        due(y.count(7), 0);
        due(y.world(3, 15, 0), 0);
        due(y.length(1, 11, 3), 3);
        due(y.at(7, 0), NONE);
    }

    private static void lengths() {
        GrammarTools x = new GrammarTools();
        of(2, "LENGTHS 1 .. 9; 3 at first");
        due(x.length(0, 5, 1), 3);
        due(x.length(0, 5, 9), 1);
        due(x.length(0, 5, 0), OUTSIDE);
        due(x.length(0, 5, 10), OUTSIDE);
        due(x.length(0, 5, -1), OUTSIDE);
        due(x.length(0, 5, MAX), OUTSIDE);
        due(x.length(0, 5, 9), 9);
        of(2, "WORD 0 to 11");
        due(x.length(0, 0, 3), 3);
        due(x.length(0, 11, 3), 3);
        due(x.length(0, -1, 3), OUTSIDE);
        due(x.length(0, 12, 3), OUTSIDE);
        due(x.length(0, 20, 3), OUTSIDE);
        due(x.length(0, MIN, 3), OUTSIDE);
        of(2, "TELLINGS 0 and 1, each with its own");
        due(x.length(1, 5, 2), 3);
        due(x.length(0, 5, 9), 9);
        due(x.length(2, 5, 2), UNKNOWN);
        due(x.length(-1, 5, 2), UNKNOWN);
        due(x.length(MAX, 5, 2), UNKNOWN);
        of(2, "UNKNOWN first");
        due(x.length(2, 12, 10), UNKNOWN);
    }

    private static void forms() {
        of(3, "SORTS 0 to 5");
        GrammarTools x = new GrammarTools();
        due(form(x, 0, 0, 1), 0);
        due(form(x, 0, 5, 1), 1);
        due(form(x, 0, -1, 1), OUTSIDE);
        due(form(x, 0, 6, 1), OUTSIDE);
        due(form(x, 0, 60, 1), OUTSIDE);
        of(3, "1 to 5 ITEMS");
        due(form(x, 0, 0), OUTSIDE);
        due(form(x, 0, 0, 1), 2);
        due(form(x, 0, 0, 1, 1, 1, 1, 1), 3);
        due(x.forms(0, 2, 1), 1);
        due(x.forms(0, 3, 1), 5);
        of(3, "codes: 0 to 11 WORDS, 20 a NAME, 40 a NUMBER, 60 to 65 SORTS");
        int f = 4;
        for (int code : row(0, 11, 20, 40, 61, 65)) {
            due(form(x, 0, 0, code), f);
            due(x.forms(0, f, 3), code);
            f++;
        }
        for (int code : row(-2, 12, 19, 21, 35, 39, 41, 59, 66, 139, 200, 1000, MAX, MIN)) {
            due(form(x, 0, 0, code), OUTSIDE);
            due(form(x, 0, 0, 1, code), OUTSIDE);
            due(form(x, 0, 0, 1, 1, code), OUTSIDE);
            due(form(x, 0, 0, 1, 1, 1, code), OUTSIDE);
            due(form(x, 0, 0, 1, 1, 1, 1, code), OUTSIDE);
        }
        due(x.count(0), 10);
        of(3, "UNKNOWN first");
        due(form(x, 2, 6, 12), UNKNOWN);
        due(form(x, -1, 6), UNKNOWN);
        due(x.count(0), 10);
        due(x.count(1), 0);
    }

    private static void aloneSorts() {
        of(3, "a FORM with one ITEM that is a SORT has one that is greater than its own");
        for (int sort = 0; sort < 6; sort++) {
            GrammarTools x = new GrammarTools();
            int many = 0;
            for (int item = 0; item < 6; item++) {
                due(form(x, 0, sort, 60 + item), item > sort ? many : OUTSIDE);
                many += item > sort ? 1 : 0;
            }
            due(x.count(0), 5 - sort);
            // with another item it may be any sort
            due(form(x, 0, sort, 60 + sort, 1), many);
            due(form(x, 0, sort, 1, 60), many + 1);
            due(form(x, 0, sort, 60 + sort, 60 + sort), many + 2);
        }
    }

    private static void itemsBehindTheEnd() {
        of(3, "NONE ends them; what stands behind is not looked at");
        GrammarTools x = new GrammarTools();
        due(x.form(0, 0, 1, NONE, 12, MAX, MIN), 0);
        due(x.form(0, 0, 1, 2, NONE, 60, 61), 1);
        due(x.form(0, 0, 1, 2, 3, NONE, -2), 2);
        due(x.form(0, 0, 1, 2, 3, 4, NONE), 3);
        for (int f = 0; f < 4; f++) {
            due(x.forms(0, f, 1), f + 1);
            due(x.forms(0, f, 2), 0);
            for (int what = 3; what <= 7; what++) {
                due(x.forms(0, f, what), what - 3 <= f ? what - 2 : NONE);
            }
        }
        of(3, "also no ITEM, whatever stands behind");
        due(x.form(0, 0, NONE, 1, 2, 3, 4), OUTSIDE);
        due(x.form(0, 0, NONE, NONE, NONE, NONE, NONE), OUTSIDE);
        of(3, "a SORT alone, with something behind the end");
        due(x.form(0, 2, 62, NONE, 1, 1, 1), OUTSIDE);
        due(x.form(0, 2, 63, NONE, 12, 1, 1), 4);
    }

    private static void fullTelling() {
        of(3, "14 FORMS each at most");
        GrammarTools x = new GrammarTools();
        for (int f = 0; f < 14; f++) {
            due(form(x, 1, f % 6, f % 12), f);
        }
        due(form(x, 1, 0, 1), FULL);
        due(x.count(1), 14);
        of(3, "OUTSIDE ahead of FULL");
        due(form(x, 1, 6, 1), OUTSIDE);
        due(form(x, 1, 0), OUTSIDE);
        due(form(x, 1, 0, 12), OUTSIDE);
        due(form(x, 1, 0, 60), OUTSIDE);
        of(3, "the other TELLING has room of its own");
        due(form(x, 0, 0, 1), 0);
        of(3, "after clear there is room again");
        due(x.clear(1), 14);
        due(form(x, 1, 3, 7), 0);
        due(x.forms(1, 0, 0), 3);
        due(x.forms(1, 1, 0), UNKNOWN);
    }

    /** A tree, shown pairs, a turn that is a law, and maps; turn v is of telling v, tree v, too. */
    private static GrammarTools bothTold(int shown) {
        GrammarTools x = sums();
        tellSums(x, 1);
        for (int v = 0; v < 2; v++) {
            treeOf(x, v, v, 41, 0, 20);
            x.hide();
            x.show(v, v);
            x.find(v);
            x.law(v, true);
        }
        x.hide();
        x.show(shown, shown);
        x.map(0, 0, 0, 0, 0, 0, 0);
        x.map(2, 2, 0, 0, 0, 0, 0);
        return x;
    }

    private static void clearing() {
        of(4, "without FORMS: 0");
        GrammarTools x = new GrammarTools();
        due(x.clear(0), 0);
        due(x.clear(1), 0);
        of(4, "UNKNOWN");
        due(x.clear(2), UNKNOWN);
        due(x.clear(-1), UNKNOWN);
        due(x.clear(MIN), UNKNOWN);
        for (int v = 0; v < 2; v++) {
            GrammarTools y = bothTold(v);
            of(4, "all FORMS of a TELLING go, those of the other one stay");
            due(y.clear(v), 6);
            due(y.count(v), 0);
            due(y.count(1 - v), 6);
            of(4, "with its TREES");
            due(y.size(v, 0), UNKNOWN);
            due(y.size(1 - v, 0), 4);
            due(y.count(2), 1);
            of(4, "with its SHOWN pairs");
            due(y.count(3), 0);
            due(y.find(2), NOT);
            of(4, "with its TURNS");
            due(y.turned(v, 0, 0), UNKNOWN);
            due(y.turned(1 - v, 0, 0), 41);
            due(y.count(4), 1);
            due(y.count(5), 1);
            of(4, "and all MAPS");
            due(y.count(6), 0);
            of(4, "TEXTS stay");
            due(y.at(7, 2), 20);
            due(y.clear(v), 0);
            of(4, "SHOWN pairs of the other TELLING stay");
            GrammarTools z = bothTold(1 - v);
            due(z.clear(v), 6);
            due(z.count(3), 1);
            due(z.show(1 - v, 1 - v), 2);
        }
    }

    private static void clearedTellingIsAsAtFirst() {
        GrammarTools x = sums();
        x.length(0, 0, 7);
        x.world(0, 0, 5);
        x.forge(0, 0, 2);
        tree(x, 0, 20);
        x.run(0, 0, 9);
        x.gap(0, 1, 1, 2);
        x.name(0, 3, 0, 1);
        x.scope(0, 2, true);
        x.mean(0, 2, 7);
        for (int i = 0; i < 6; i++) {
            x.rule(0, 4, 0, i);
        }
        x.clear(0);
        of(4, "what is no FORM stays: LENGTHS, WORLDS, SHEETS, value");
        due(x.length(0, 0, 3), 7);
        due(x.world(0, 0, 0), 5);
        due(x.count(7), 1);
        due(x.value(), 5);
        of(4, "new FORMS are as at first");
        tellSums(x, 0);
        due(x.gap(0, 1, 1, 1), 1);
        due(x.name(0, 3, 0, 0), 0);
        due(x.forms(0, 2, 9), 0);
        due(x.forms(0, 2, 8), 0);
        due(x.forms(0, 4, 10), 0);
        due(x.rule(0, 4, 0, 0), 1);
        due(x.unmap(0), 0);
        of(4, "nothing is SHOWN: the next pair may be of another TELLING");
        tree(x, 0, 20);
        x.show(0, 0);
        x.clear(0);
        form(x, 1, 0, 20);
        treeOf(x, 1, 1, 20);
        due(x.show(1, 1), 1);
    }

    private static void formsAsked() {
        GrammarTools x = new GrammarTools();
        form(x, 0, 3, 5);
        form(x, 0, 2, 60, 20, 0, 40, 65);
        of(5, "ITEM 0 to 4, NONE: there is none such; a FORM of one ITEM");
        int[] least = {3, 1, 0, 5, NONE, NONE, NONE, NONE, 0, 0, 0};
        for (int what = 0; what < 11; what++) {
            due(x.forms(0, 0, what), least[what]);
        }
        of(5, "a FORM of five ITEMS");
        int[] most = {2, 5, 4, 60, 20, 0, 40, 65, 0, 0, 0};
        for (int what = 0; what < 11; what++) {
            due(x.forms(0, 1, what), most[what]);
        }
        of(5, "OUTSIDE");
        for (int what : row(-1, 11, -2, MAX, MIN)) {
            due(x.forms(0, 0, what), OUTSIDE);
        }
        of(5, "UNKNOWN, also ahead of OUTSIDE");
        for (int f : row(-1, 2, 14, MAX, MIN)) {
            due(x.forms(0, f, 0), UNKNOWN);
            due(x.forms(0, f, 11), UNKNOWN);
        }
        due(x.forms(1, 0, 0), UNKNOWN);
        due(x.forms(2, 0, 0), UNKNOWN);
        due(x.forms(-1, 0, 0), UNKNOWN);
        of(5, "6 RULES, the last ACT, a SCOPE");
        x.mean(0, 1, 7);
        x.scope(0, 1, true);
        for (int i = 0; i < 6; i++) {
            x.rule(0, 1, NONE, 0);
        }
        due(x.forms(0, 1, 8), 7);
        due(x.forms(0, 1, 9), 1);
        due(x.forms(0, 1, 10), 6);
    }

    private static void gaps() {
        GrammarTools x = new GrammarTools();
        form(x, 0, 0, 1);
        form(x, 0, 0, 1, 2);
        form(x, 0, 0, 1, 2, 3, 4, 5);
        of(6, "1 a blank (at first), behind each ITEM but the last one");
        for (int i = 0; i < 4; i++) {
            due(x.gap(0, 2, i, 2), 1);
            due(x.gap(0, 2, i, 0), 2);
            due(x.gap(0, 2, i, 1), 0);
        }
        due(x.gap(0, 2, 4, 1), OUTSIDE);
        due(x.gap(0, 2, 5, 1), OUTSIDE);
        due(x.gap(0, 2, -1, 1), OUTSIDE);
        due(x.gap(0, 1, 0, 1), 1);
        due(x.gap(0, 1, 1, 1), OUTSIDE);
        of(6, "a FORM of one ITEM has no GAP");
        due(x.gap(0, 0, 0, 1), OUTSIDE);
        due(x.gap(0, 0, -1, 1), OUTSIDE);
        of(6, "0, 1, 2 alone");
        for (int how : row(-1, 3, MAX, MIN)) {
            due(x.gap(0, 2, 0, how), OUTSIDE);
        }
        due(x.gap(0, 2, 0, 1), 1);
        of(6, "UNKNOWN, also ahead of OUTSIDE");
        due(x.gap(0, 3, 0, 1), UNKNOWN);
        due(x.gap(0, -1, 0, 1), UNKNOWN);
        due(x.gap(1, 0, 0, 1), UNKNOWN);
        due(x.gap(2, 0, 9, 9), UNKNOWN);
    }

    private static void names() {
        GrammarTools x = new GrammarTools();
        form(x, 0, 0, 20, 1, 40, 60, 20);
        form(x, 0, 0, 1);
        of(7, "a USE (0, at first), 1, 2");
        due(x.name(0, 0, 0, 0), 0);
        due(x.name(0, 0, 0, 1), 0);
        due(x.name(0, 0, 0, 2), 1);
        due(x.name(0, 0, 3, 2), 0);
        due(x.name(0, 0, 3, 0), 2);
        due(x.name(0, 0, 0, 0), 2);
        of(7, "NOT: it is no NAME, but a NUMBER or a SORT");
        due(x.name(0, 0, 1, 1), NOT);
        due(x.name(0, 0, 2, 1), NOT);
        due(x.name(0, 0, 2, 0), NOT);
        of(7, "OUTSIDE, also ahead of NOT");
        for (int i : row(-1, 4, 5, MAX, MIN)) {
            due(x.name(0, 0, i, 1), OUTSIDE);
        }
        for (int how : row(-1, 3, MAX, MIN)) {
            due(x.name(0, 0, 0, how), OUTSIDE);
            due(x.name(0, 0, 1, how), OUTSIDE);
        }
        due(x.name(0, 1, 0, 0), OUTSIDE);
        due(x.name(0, 0, 0, 0), 0);
        of(7, "UNKNOWN, also ahead of OUTSIDE and NOT");
        due(x.name(0, 2, 0, 1), UNKNOWN);
        due(x.name(0, -1, 4, 3), UNKNOWN);
        due(x.name(1, 0, 1, 1), UNKNOWN);
        due(x.name(2, 0, 0, 1), UNKNOWN);
    }

    private static void scopes() {
        GrammarTools x = new GrammarTools();
        form(x, 0, 0, 1);
        form(x, 1, 0, 1);
        of(8, "what it was (1, 0)");
        due(x.scope(0, 0, false), 0);
        due(x.scope(0, 0, true), 0);
        due(x.scope(0, 0, true), 1);
        due(x.scope(1, 0, false), 0);
        due(x.scope(0, 0, false), 1);
        due(x.scope(0, 0, false), 0);
        of(8, "UNKNOWN");
        due(x.scope(0, 1, true), UNKNOWN);
        due(x.scope(0, -1, true), UNKNOWN);
        due(x.scope(1, 1, true), UNKNOWN);
        due(x.scope(2, 0, true), UNKNOWN);
        due(x.scope(-1, 0, true), UNKNOWN);
    }

    private static void rules() {
        GrammarTools x = new GrammarTools();
        form(x, 0, 0, 20, 40, 60, 61, 20);
        form(x, 0, 0, 7, 60);
        of(9, "of SLOT i, or of the NODE (NONE)");
        due(x.rule(0, 0, NONE, 0), 1);
        due(x.rule(0, 0, 0, 0), 2);
        due(x.rule(0, 0, 4, 0), 3);
        for (int i : row(-2, 5, 6, MAX, MIN)) {
            due(x.rule(0, 0, i, 0), OUTSIDE);
        }
        due(x.rule(0, 1, 1, 0), OUTSIDE);
        of(9, "KINDS 0 to 5, or 10 and j");
        due(x.rule(0, 0, 0, 5), 4);
        due(x.rule(0, 0, NONE, 10), 5);
        due(x.rule(0, 0, 0, 14), 6);
        for (int what : row(-1, -2, 6, 7, 8, 9, 15, 16, 20, 100, MAX, MIN)) {
            due(x.rule(0, 0, NONE, what), OUTSIDE);
            due(x.rule(0, 0, 0, what), OUTSIDE);
        }
        of(9, "i, j not SLOTS of it, or one");
        due(x.unrule(0, 0), 6);
        for (int i = 0; i < 5; i++) {
            for (int j = 0; j < 5; j++) {
                due(x.rule(0, 0, i, 10 + j), i == j ? OUTSIDE : 1);
                x.unrule(0, 0);
            }
        }
        due(x.rule(0, 1, NONE, 10), 1);
        due(x.rule(0, 1, NONE, 11), OUTSIDE);
        due(x.rule(0, 1, 0, 10), OUTSIDE);
        due(x.rule(0, 1, 0, 11), OUTSIDE);
    }

    private static void rulesWithoutSlots() {
        of(9, "a FORM without SLOTS has RULES of the NODE alone, and of KINDS alone");
        GrammarTools x = new GrammarTools();
        form(x, 0, 0, 1, 2, 3);
        due(x.rule(0, 0, NONE, 3), 1);
        due(x.rule(0, 0, 0, 3), OUTSIDE);
        due(x.rule(0, 0, NONE, 10), OUTSIDE);
        due(x.rule(0, 0, 0, 10), OUTSIDE);
        due(x.rule(0, 0, 0, 11), OUTSIDE);
        due(x.forms(0, 0, 10), 1);
    }

    private static void fullRules() {
        GrammarTools x = new GrammarTools();
        form(x, 0, 0, 20, 20);
        form(x, 0, 0, 20, 20);
        of(9, "6 at most, also of like ones");
        for (int many = 1; many <= 6; many++) {
            due(x.rule(0, 0, 0, 11), many);
        }
        due(x.rule(0, 0, 0, 11), FULL);
        due(x.rule(0, 0, NONE, 0), FULL);
        of(9, "each FORM has its own");
        due(x.rule(0, 1, 0, 11), 1);
        of(9, "OUTSIDE ahead of FULL, UNKNOWN ahead of both");
        due(x.rule(0, 0, 2, 0), OUTSIDE);
        due(x.rule(0, 0, 0, 10), OUTSIDE);
        due(x.rule(0, 0, 0, 6), OUTSIDE);
        due(x.rule(0, 2, 2, 6), UNKNOWN);
        due(x.rule(0, -1, 0, 0), UNKNOWN);
        due(x.rule(1, 0, 0, 0), UNKNOWN);
        due(x.rule(2, 0, 2, 6), UNKNOWN);
        due(x.forms(0, 0, 10), 6);
    }

    private static void unrules() {
        GrammarTools x = new GrammarTools();
        form(x, 0, 0, 20);
        form(x, 0, 0, 20);
        of(10, "how many it had: 0, 6");
        due(x.unrule(0, 0), 0);
        for (int i = 0; i < 6; i++) {
            x.rule(0, 0, 0, 1);
            x.rule(0, 1, 0, 1);
        }
        due(x.unrule(0, 0), 6);
        due(x.unrule(0, 0), 0);
        of(10, "those of another FORM stay");
        due(x.forms(0, 1, 10), 6);
        of(10, "there is room again, and nothing is HELD of what was");
        tree(x, 0, 25);
        due(x.kind(0, 0, true), NONE);
        due(x.rule(0, 0, NONE, 2), 1);
        due(x.kind(0, 0, true), NONE);
        due(x.kind(0, 0, false), 2);
        of(10, "UNKNOWN");
        due(x.unrule(0, 2), UNKNOWN);
        due(x.unrule(0, -1), UNKNOWN);
        due(x.unrule(1, 0), UNKNOWN);
        due(x.unrule(2, 0), UNKNOWN);
    }

    private static void means() {
        GrammarTools x = new GrammarTools();
        form(x, 0, 0, 20);
        of(11, "ACTS 0 to 7, 0 at first");
        for (int act = 0; act < 8; act++) {
            due(x.mean(0, 0, act), Math.max(0, act - 1));
        }
        for (int act : row(-1, 8, MAX, MIN)) {
            due(x.mean(0, 0, act), OUTSIDE);
        }
        due(x.mean(0, 0, 7), 7);
        of(11, "UNKNOWN, also ahead of OUTSIDE");
        due(x.mean(0, 1, 8), UNKNOWN);
        due(x.mean(0, -1, 0), UNKNOWN);
        due(x.mean(1, 0, 0), UNKNOWN);
        due(x.mean(-1, 0, 8), UNKNOWN);
    }

    private static void counts() {
        GrammarTools x = new GrammarTools();
        of(12, "OUTSIDE");
        for (int what : row(-1, 8, 9, MAX, MIN)) {
            due(x.count(what), OUTSIDE);
        }
        of(12, "as many as there may be");
        for (int f = 0; f < 14; f++) {
            form(x, 0, 0, f == 0 ? 20 : f % 12);
            form(x, 1, 0, f % 12);
        }
        text(x, 0, 20);
        for (int tree = 0; tree < 12; tree++) {
            x.read(0, 0, tree);
        }
        for (int i = 0; i < 4; i++) {
            x.show(i, i);
            x.forge(i, i, 0);
        }
        for (int turn = 0; turn < 6; turn++) {
            x.find(turn);
            x.law(turn, true);
        }
        for (int f = 0; f < 14; f++) {
            x.map(f, f == 0 ? 1 : f, 0, 0, 0, 0, 0);
        }
        int[] most = {14, 14, 12, 4, 6, 6, 14, 4};
        for (int what = 0; what < 8; what++) {
            due(x.count(what), most[what]);
        }
        of(12, "what comes again in a place is counted once");
        x.read(0, 0, 11);
        x.forge(3, 0, 1);
        x.find(5);
        x.map(13, 13, 0, 0, 0, 0, 0);
        int[] again = {14, 14, 12, 4, 6, 5, 14, 4};
        for (int what = 0; what < 8; what++) {
            due(x.count(what), again[what]);
        }
    }

    private static void cells() {
        GrammarTools x = new GrammarTools();
        of(13, "codes 0 to 11, 20 to 35, 40 to 139");
        int many = 0;
        for (int code : row(0, 11, 20, 35, 40, 139)) {
            many++;
            due(x.cell(0, code), many);
        }
        for (int code : row(-1, 12, 19, 36, 39, 140, 200, 1000, MAX, MIN)) {
            due(x.cell(0, code), OUTSIDE);
        }
        cells(x, 0, 0, 11, 20, 35, 40, 139);
        of(13, "up to 16 CELLS");
        for (int n = 7; n <= 16; n++) {
            due(x.cell(0, 1), n);
        }
        due(x.cell(0, 1), FULL);
        due(x.at(0, 15), 1);
        due(x.at(0, 16), NONE);
        of(13, "OUTSIDE ahead of FULL");
        due(x.cell(0, 12), OUTSIDE);
        of(13, "TEXTS 0 to 7");
        due(x.cell(7, 1), 1);
        due(x.cell(8, 1), UNKNOWN);
        due(x.cell(-1, 1), UNKNOWN);
        of(13, "UNKNOWN ahead of OUTSIDE");
        due(x.cell(8, 12), UNKNOWN);
        of(13, "there is room again when it is wiped");
        x.wipe(0);
        due(x.cell(0, 2), 1);
    }

    private static void puts() {
        GrammarTools x = new GrammarTools();
        of(14, "OUTSIDE: there is no such CELL; an empty TEXT has none");
        due(x.put(0, 0, 1), OUTSIDE);
        text(x, 0, 1, 2, 3);
        due(x.put(0, 0, 4), 1);
        due(x.put(0, 2, 139), 3);
        for (int i : row(-1, 3, 15, 16, MAX, MIN)) {
            due(x.put(0, i, 1), OUTSIDE);
        }
        of(14, "OUTSIDE: no code");
        for (int code : row(-1, 12, 19, 36, 39, 140, MAX, MIN)) {
            due(x.put(0, 1, code), OUTSIDE);
        }
        cells(x, 0, 4, 2, 139);
        of(14, "each edge of the codes");
        due(x.put(0, 1, 0), 2);
        due(x.put(0, 1, 11), 0);
        due(x.put(0, 1, 20), 11);
        due(x.put(0, 1, 35), 20);
        due(x.put(0, 1, 40), 35);
        due(x.put(0, 1, 139), 40);
        due(x.put(0, 1, 139), 139);
        of(14, "the last CELL of a full TEXT");
        text(x, 7, times(16, 1));
        due(x.put(7, 15, 2), 1);
        due(x.put(7, 16, 2), OUTSIDE);
        due(x.cell(7, 1), FULL);
        of(14, "UNKNOWN, also ahead of OUTSIDE");
        due(x.put(8, 0, 1), UNKNOWN);
        due(x.put(-1, 99, 12), UNKNOWN);
    }

    private static void wipes() {
        GrammarTools x = new GrammarTools();
        of(15, "an empty one: 0");
        due(x.wipe(0), 0);
        of(15, "a full one: 16");
        text(x, 7, times(16, 1));
        text(x, 6, 5);
        due(x.wipe(7), 16);
        due(x.at(7, 0), NONE);
        due(x.wipe(7), 0);
        due(x.at(6, 0), 5);
        of(15, "UNKNOWN");
        due(x.wipe(8), UNKNOWN);
        due(x.wipe(-1), UNKNOWN);
        due(x.wipe(MAX), UNKNOWN);
    }

    private static void ats() {
        GrammarTools x = new GrammarTools();
        of(16, "NONE: an empty TEXT");
        due(x.at(0, 0), NONE);
        of(16, "NONE: behind the last CELL, ahead of the first one");
        text(x, 0, 7, 8);
        due(x.at(0, 0), 7);
        due(x.at(0, 1), 8);
        for (int i : row(-1, 2, 15, 16, MAX, MIN)) {
            due(x.at(0, i), NONE);
        }
        of(16, "what was wiped is not there any more");
        x.wipe(0);
        x.cell(0, 9);
        due(x.at(0, 1), NONE);
        of(16, "UNKNOWN");
        due(x.at(8, 0), UNKNOWN);
        due(x.at(-1, -1), UNKNOWN);
    }
}
