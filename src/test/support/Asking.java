/** What the tests have in common: how they ask, and short ways to forms, texts, trees and turns. */
abstract class Asking {
    static final int NONE = GrammarTools.NONE, UNKNOWN = GrammarTools.UNKNOWN, OUTSIDE = GrammarTools.OUTSIDE;
    static final int NOT = GrammarTools.NOT, FULL = GrammarTools.FULL, SPENT = GrammarTools.SPENT, LARGE = GrammarTools.LARGE;
    static final int MIN = Integer.MIN_VALUE, MAX = Integer.MAX_VALUE;

    private static String about = "";
    private static int asked;
    private static int wrong;

    /** What the next questions are about. */
    static void of(int promise) {
        of(promise, "");
    }

    static void of(int promise, String sentence) {
        about = "promise " + promise + (sentence.isEmpty() ? "" : ", \"" + sentence + "\"");
        asked = 0;
    }

    static void due(long got, long want) {
        asked++;
        if (got != want) {
            wrong++;
            System.out.println(about + ", question " + asked + ": answered " + got + ", due is " + want);
        }
    }

    static void end(String allIsWell) {
        System.out.println(wrong == 0 ? allIsWell : wrong + " answers are not as due");
        if (wrong != 0) {
            System.exit(1);
        }
    }

    static int[] row(int... codes) {
        return codes;
    }

    /** A row of n codes that are all the same. */
    static int[] times(int n, int code) {
        int[] codes = new int[n];
        java.util.Arrays.fill(codes, code);
        return codes;
    }

    // ---- tellings

    static int form(GrammarTools x, int v, int sort, int... items) {
        int[] a = {NONE, NONE, NONE, NONE, NONE};
        System.arraycopy(items, 0, a, 0, items.length);
        return x.form(v, sort, a[0], a[1], a[2], a[3], a[4]);
    }

    /** Forms: 0 a part; 1 sum and part; parts: 2 number, 3 name, 4 in brackets, 5 word 4, name, word 5, sum. */
    static GrammarTools sums() {
        GrammarTools x = new GrammarTools();
        tellSums(x, 0);
        return x;
    }

    static void tellSums(GrammarTools x, int v) {
        form(x, v, 0, 61);
        form(x, v, 0, 60, 0, 61);
        form(x, v, 1, 40);
        form(x, v, 1, 20);
        form(x, v, 1, 2, 60, 3);
        form(x, v, 1, 4, 20, 5, 60);
    }

    /** Forms of sort 0 alone: 0 a name; 1 a number; 2 two after word 2; 3 a name and two after word 3. */
    static GrammarTools pairs() {
        GrammarTools x = new GrammarTools();
        form(x, 0, 0, 20);
        form(x, 0, 0, 40);
        form(x, 0, 0, 2, 60, 60);
        form(x, 0, 0, 3, 20, 60, 60);
        return x;
    }

    /** Forms of sort 0: 0 a use; 1 a tell and two; 2 two; 3 a tell seen all through, and one; 4 a number. 1 is a scope. */
    static GrammarTools lets() {
        GrammarTools x = new GrammarTools();
        form(x, 0, 0, 20);
        form(x, 0, 0, 4, 20, 60, 60);
        form(x, 0, 0, 2, 60, 60);
        form(x, 0, 0, 6, 20, 60);
        form(x, 0, 0, 40);
        x.name(0, 1, 0, 1);
        x.name(0, 3, 0, 2);
        x.scope(0, 1, true);
        return x;
    }

    /** Forms of sort 0: 0 a name, 1 one after word 2, 2 two after word 3; turn 0 puts word 2 ahead; tree 0 is of 2 nodes. */
    static GrammarTools chains() {
        GrammarTools x = new GrammarTools();
        form(x, 0, 0, 20);
        form(x, 0, 0, 2, 60);
        form(x, 0, 0, 3, 60, 60);
        show(x, row(2, 20), row(2, 2, 20));
        show(x, row(2, 2, 20), row(2, 2, 2, 20));
        x.find(0);
        tree(x, 0, 2, 20);
        return x;
    }

    /** As chains, with tree 0 of 40 nodes in one another. */
    static GrammarTools fortyInOneAnother() {
        GrammarTools x = chains();
        for (int n = 2; n < 40; n++) {
            x.apply(0, 0, 0);
        }
        return x;
    }

    /** Sorts 0 and up, so that in a row of them a number is 4 nodes and a name 2. */
    static GrammarTools deepNumbers() {
        GrammarTools x = new GrammarTools();
        form(x, 0, 0, 61, 60);
        form(x, 0, 0, 61);
        form(x, 0, 1, 62);
        form(x, 0, 1, 20);
        form(x, 0, 2, 63);
        form(x, 0, 3, 40);
        return x;
    }

    /** In both tellings form 0 of one more and four names, form 1 of five names. */
    static GrammarTools fives() {
        GrammarTools x = new GrammarTools();
        for (int v = 0; v < 2; v++) {
            form(x, v, 0, 60, 20, 20, 20, 20);
            form(x, v, 0, 20, 20, 20, 20, 20);
        }
        return x;
    }

    /** Tree v becomes 40 nodes with five slots each, by turn v. */
    static void fullest(GrammarTools x, int v) {
        treeOf(x, v, 10, times(5, 20));
        treeOf(x, v, 11, times(9, 20));
        x.hide();
        x.show(10, 11);
        x.find(v);
        x.hide();
        x.keep(v, 10);
        for (int n = 1; n < 40; n++) {
            x.apply(v, v, v);
        }
    }

    // ---- texts and trees

    static void text(GrammarTools x, int t, int... codes) {
        x.wipe(t);
        for (int code : codes) {
            x.cell(t, code);
        }
    }

    static int tree(GrammarTools x, int tree, int... codes) {
        return treeOf(x, 0, tree, codes);
    }

    static int treeOf(GrammarTools x, int v, int tree, int... codes) {
        text(x, 7, codes);
        return x.read(v, 7, tree);
    }

    static void spelled(GrammarTools x, int tree, int... codes) {
        for (int i = 0; i < codes.length; i++) {
            due(x.spell(tree, i), codes[i]);
        }
        due(x.spell(tree, codes.length), NONE);
    }

    /** A text's cells, and none behind them. */
    static void cells(GrammarTools x, int t, int... codes) {
        for (int i = 0; i < codes.length; i++) {
            due(x.at(t, i), codes[i]);
        }
        due(x.at(t, codes.length), NONE);
    }

    // ---- turns

    static void show(GrammarTools x, int[] before, int[] after) {
        tree(x, 10, before);
        tree(x, 11, after);
        x.show(10, 11);
    }

    static void turnOf(GrammarTools x, int turn, int[] before, int[] after) {
        x.hide();
        show(x, before, after);
        x.find(turn);
    }

    static void turnedTo(GrammarTools x, int turn, int side, int... codes) {
        for (int i = 0; i < codes.length; i++) {
            due(x.turned(turn, side, i), codes[i]);
        }
        due(x.turned(turn, side, codes.length), NONE);
    }
}
