/** Promises 17 to 23: each sentence on the reader that names an edge, with a test of its own. */
public final class ReaderEdgeTests extends Asking {

    public static void main(String[] args) {
        noCells();
        oneCellOrMore();
        thousandReadings();
        fullTextsRead();
        readingsOfTheFirstSort();
        readRefused();
        firstReading();
        fortyNodes();
        idleNone();
        idleHoweverLong();
        idleAll();
        readerOfClearedTelling();
        rowsRefused();
        hundredRows();
        spentByAnySort();
        likeRows();
        twoRefused();
        twoFewestCells();
        twoFirstByCodes();
        twoSpent();
        priceOfOneItem();
        priceOfEmptyText();
        noReadingOfAnyRow();
        priceOfFullText();
        mendRefused();
        mendedWithNothing();
        mendedFirstFit();
        mendedLeastForm();
        mendedShortestPart();
        mendedEnds();
        mendedFortyNodes();
        end("the edges of the reader hold");
    }

    private static void noCells() {
        of(17, "a TEXT without CELLS has no READING");
        GrammarTools x = sums();
        due(x.readings(0, 0), 0);
        due(x.read(0, 0, 0), NOT);
        of(17, "a TELLING without FORMS has no READING");
        x.cell(0, 41);
        due(x.readings(1, 0), 0);
        due(x.readings(0, 0), 1);
        of(17, "UNKNOWN");
        due(x.readings(2, 0), UNKNOWN);
        due(x.readings(-1, 0), UNKNOWN);
        due(x.readings(0, 8), UNKNOWN);
        due(x.readings(0, -1), UNKNOWN);
        due(x.readings(MAX, MIN), UNKNOWN);
    }

    private static void oneCellOrMore() {
        of(17, "parts of the CELLS side by side, one CELL or more each, all together");
        GrammarTools x = new GrammarTools();
        form(x, 0, 0, 60, 60);
        form(x, 0, 0, 20);
        form(x, 0, 0, 1, 20, 40, 2, 60);
        text(x, 0, 20);
        due(x.readings(0, 0), 1);
        text(x, 0, 1, 20, 40, 2);
        due(x.readings(0, 0), 0);
        text(x, 0, 1, 20, 40, 2, 20);
        due(x.readings(0, 0), 1);
        text(x, 0, 1, 20, 40, 2, 20, 1);
        due(x.readings(0, 0), 0);
        of(17, "for a WORD that CELL, for a NAME a CELL with one, for a NUMBER likewise");
        GrammarTools y = new GrammarTools();
        form(y, 0, 0, 11, 20, 40);
        int[][] good = {{11, 20, 40}, {11, 35, 139}};
        int[][] bad = {{10, 20, 40}, {11, 40, 40}, {11, 20, 20}, {11, 11, 40}, {20, 20, 40}, {11, 20, 40, 40}, {11, 20}};
        for (int[] row : good) {
            text(y, 0, row);
            due(y.readings(0, 0), 1);
        }
        for (int[] row : bad) {
            text(y, 0, row);
            due(y.readings(0, 0), 0);
        }
    }

    private static void thousandReadings() {
        of(17, "1000 also for more");
        GrammarTools x = new GrammarTools();
        form(x, 0, 0, 61, 61, 61);
        text(x, 0, 20, 20, 20);
        for (int f = 1; f <= 9; f++) {
            form(x, 0, 1, 20);
            due(x.readings(0, 0), f * f * f);
        }
        // nine parts of one kind, and one of another one in the last, the second, the first place
        form(x, 0, 2, 20);
        form(x, 0, 0, 61, 61, 62);
        due(x.readings(0, 0), 729 + 81);
        form(x, 0, 0, 61, 62, 61);
        due(x.readings(0, 0), 729 + 162);
        form(x, 0, 0, 62, 61, 61);
        due(x.readings(0, 0), 729 + 243);
        GrammarTools y = new GrammarTools();
        form(y, 0, 0, 61, 61, 61);
        for (int f = 0; f < 10; f++) {
            form(y, 0, 1, 20);
        }
        text(y, 0, 20, 20, 20);
        due(y.readings(0, 0), 1000);
        form(y, 0, 0, 20, 20, 20);
        due(y.readings(0, 0), 1000);
        form(y, 0, 1, 20);
        due(y.readings(0, 0), 1000);
        due(y.hint(0, 0, 0), 2);
    }

    private static void fullTextsRead() {
        of(17, "a full TEXT with more READINGS than an int can tell");
        GrammarTools x = new GrammarTools();
        for (int f = 0; f < 9; f++) {
            form(x, 0, 0, 20);
        }
        form(x, 0, 0, 60, 60);
        form(x, 0, 0, 60, 60, 60);
        form(x, 0, 0, 60, 60, 60, 60);
        form(x, 0, 0, 60, 60, 60, 60, 60);
        text(x, 0, times(16, 20));
        due(x.readings(0, 0), 1000);
        x.put(0, 15, 0);
        due(x.readings(0, 0), 0);
        of(17, "a full TEXT with one READING");
        GrammarTools y = new GrammarTools();
        form(y, 0, 0, 20, 60);
        form(y, 0, 0, 20);
        text(y, 0, times(16, 20));
        due(y.readings(0, 0), 1);
        due(y.read(0, 0, 0), 16);
    }

    private static void readingsOfTheFirstSort() {
        of(17, "all its CELLS as SORT 0");
        GrammarTools x = new GrammarTools();
        form(x, 0, 1, 20);
        form(x, 0, 5, 40);
        text(x, 0, 20);
        due(x.readings(0, 0), 0);
        due(x.read(0, 0, 0), NOT);
        form(x, 0, 0, 61);
        due(x.readings(0, 0), 1);
        due(x.read(0, 0, 0), 2);
        text(x, 0, 40);
        due(x.readings(0, 0), 0);
        form(x, 0, 0, 65);
        due(x.readings(0, 0), 1);
    }

    private static void readRefused() {
        GrammarTools x = sums();
        of(18, "UNKNOWN (the TREE's number 0 .. 11, too), ahead of NOT");
        for (int tree : row(-1, 12, MAX, MIN)) {
            due(x.read(0, 0, tree), UNKNOWN);
        }
        due(x.read(2, 0, 0), UNKNOWN);
        due(x.read(-1, 0, 0), UNKNOWN);
        due(x.read(0, 8, 0), UNKNOWN);
        due(x.read(0, -1, 0), UNKNOWN);
        of(18, "NOT: there is none; the TREE is as it was");
        text(x, 0, 41, 0);
        due(x.read(0, 0, 0), NOT);
        due(x.size(0, 0), UNKNOWN);
        due(tree(x, 0, 41), 2);
        due(x.read(0, 0, 0), NOT);
        spelled(x, 0, 41);
        of(18, "the first and the last TREE");
        due(tree(x, 11, 42), 2);
        spelled(x, 11, 42);
        spelled(x, 0, 41);
    }

    private static void firstReading() {
        of(18, "that with the least FORM");
        GrammarTools x = new GrammarTools();
        form(x, 0, 0, 61);
        form(x, 0, 0, 20);
        form(x, 0, 1, 20);
        form(x, 0, 1, 20);
        due(tree(x, 0, 25), 2);
        due(x.node(0, 0, 0), 0);
        due(x.node(0, 1, 0), 2);
        of(18, "then, ITEM by ITEM from the left, the part as short as can be; and so on within");
        GrammarTools y = new GrammarTools();
        form(y, 0, 0, 61, 61, 61);
        form(y, 0, 1, 20);
        form(y, 0, 1, 61, 61);
        due(tree(y, 0, 20, 21, 22, 23, 24), 8);
        // one, one and three; these are one and two
        due(y.slot(0, 0, 0), 1001);
        due(y.slot(0, 0, 1), 1002);
        due(y.slot(0, 0, 2), 1003);
        due(y.node(0, 3, 2), 5);
        due(y.slot(0, 3, 0), 1004);
        due(y.slot(0, 3, 1), 1005);
        due(y.node(0, 4, 2), 1);
        due(y.node(0, 5, 2), 3);
        of(18, "the least FORM goes ahead of the shorter part");
        GrammarTools z = new GrammarTools();
        form(z, 0, 0, 62, 61);
        form(z, 0, 0, 61, 62);
        form(z, 0, 1, 20);
        form(z, 0, 2, 20, 20);
        due(tree(z, 0, 20, 20, 20), 3);
        due(z.node(0, 0, 0), 0);
        due(z.node(0, 1, 0), 3);
    }

    private static void fortyNodes() {
        of(18, "40 NODES are not too many");
        GrammarTools x = deepNumbers();
        // a number: 4 nodes with its row's one; a name: 2
        due(tree(x, 0, 40, 41, 42, 43, 44, 45, 46, 47, 48, 20, 21), 40);
        due(x.size(0, 0), 40);
        due(x.size(0, 1), 11);
        due(x.node(0, 39, 1), 38);
        due(tree(x, 1, 40, 41, 42, 43, 44, 45, 46, 47, 48, 49), 40);
        of(18, "LARGE: more than 40 NODES; the TREE is as it was");
        due(tree(x, 0, 40, 41, 42, 43, 44, 45, 46, 47, 48, 49, 20), LARGE);
        due(x.size(0, 1), 11);
        due(tree(x, 2, times(16, 40)), LARGE);
        due(x.size(2, 0), UNKNOWN);
        of(18, "one more than 40");
        GrammarTools y = deepNumbers();
        form(y, 0, 0, 7);
        form(y, 0, 1, 8, 20);
        due(tree(y, 0, 40, 41, 42, 43, 44, 45, 46, 47, 48, 49, 7), LARGE);
        due(tree(y, 0, 40, 41, 42, 43, 44, 45, 46, 47, 48, 20, 7), 39);
        due(tree(y, 0, 40, 41, 42, 43, 44, 45, 46, 47, 48, 20, 8, 21), 40);
        of(18, "NOT, not LARGE, where no READING is");
        due(tree(y, 0, 40, 41, 42, 43, 44, 45, 46, 47, 48, 49, 7, 7), NOT);
        due(y.size(0, 0), 40);
    }

    private static void idleNone() {
        of(19, "without FORMS: none");
        GrammarTools x = new GrammarTools();
        due(x.idle(0), 0);
        due(x.idle(1), 0);
        of(19, "UNKNOWN");
        due(x.idle(2), UNKNOWN);
        due(x.idle(-1), UNKNOWN);
        due(x.idle(MIN), UNKNOWN);
    }

    private static void idleHoweverLong() {
        of(19, "of any TEXT, however long");
        GrammarTools x = new GrammarTools();
        for (int sort = 0; sort < 5; sort++) {
            form(x, 0, sort, 61 + sort, 61 + sort, 61 + sort, 61 + sort, 61 + sort);
        }
        form(x, 0, 5, 20, 20, 20, 20, 20);
        // 15625 cells at least
        due(x.idle(0), 0);
        due(x.readings(0, 0), 0);
        of(19, "nothing ends there: IDLE, and all that need it");
        GrammarTools y = new GrammarTools();
        form(y, 0, 0, 61);
        form(y, 0, 1, 62);
        form(y, 0, 2, 1, 62);
        due(y.idle(0), 7);
        form(y, 0, 2, 1);
        due(y.idle(0), 0);
        of(19, "SORT 0 within itself alone: IDLE, and what it leads to");
        GrammarTools z = new GrammarTools();
        form(z, 0, 0, 60, 1);
        form(z, 0, 0, 60, 61);
        form(z, 0, 1, 2);
        due(z.idle(0), 7);
        form(z, 0, 0, 3);
        due(z.idle(0), 0);
        of(19, "nothing leads there: IDLE");
        form(y, 0, 3, 62, 1);
        form(y, 0, 5, 1);
        due(y.idle(0), 1 << 4 | 1 << 5);
        form(y, 0, 1, 1, 65, 64);
        due(y.idle(0), 1 << 4 | 1 << 5 | 1 << 6);
        form(y, 0, 4, 63, 60);
        due(y.idle(0), 0);
    }

    private static void idleAll() {
        of(19, "all 14 as a SET");
        GrammarTools x = new GrammarTools();
        for (int f = 0; f < 14; f++) {
            form(x, 0, 1 + f % 5, f % 12);
        }
        due(x.idle(0), (1 << 14) - 1);
        of(19, "each TELLING alone");
        form(x, 1, 0, 61, 62, 63, 64, 65);
        due(x.idle(1), 1);
        form(x, 1, 1, 20);
        due(x.idle(1), 3);
    }

    private static void readerOfClearedTelling() {
        of(19, "nothing is left of FORMS that are gone");
        GrammarTools x = new GrammarTools();
        form(x, 0, 0, 1, 61, 62, 63, 64);
        form(x, 0, 1, 60, 20);
        x.clear(0);
        form(x, 0, 0, 1);
        form(x, 0, 1, 20);
        due(x.forms(0, 0, 2), 0);
        due(x.forms(0, 1, 2), 1);
        due(x.idle(0), 2);
        text(x, 0, 1);
        due(x.readings(0, 0), 1);
        due(x.read(0, 0, 0), 1);
        due(x.size(0, 1), 0);
        due(x.price(0, 0), 0);
        due(x.rows(0, 0, 1), 1);
        due(x.rows(0, 0, 2), 0);
    }

    private static void rowsRefused() {
        GrammarTools x = sums();
        of(20, "1 .. 4 CELLS");
        due(x.rows(0, 0, 1), 2);
        due(x.rows(0, 0, 4), 2);
        for (int n : row(0, 5, -1, MAX, MIN)) {
            due(x.rows(0, 0, n), OUTSIDE);
        }
        of(20, "SORTS 0 to 5");
        due(x.rows(0, 5, 1), 0);
        for (int sort : row(-1, 6, 60, MAX, MIN)) {
            due(x.rows(0, sort, 1), OUTSIDE);
        }
        of(20, "UNKNOWN, also ahead of OUTSIDE");
        due(x.rows(2, 0, 1), UNKNOWN);
        due(x.rows(-1, 6, 5), UNKNOWN);
        of(20, "without FORMS: none");
        for (int n = 1; n <= 4; n++) {
            due(x.rows(1, 0, n), 0);
        }
        of(20, "NAMES as 20 and NUMBERS as 40 alone");
        form(x, 1, 0, 20, 40);
        due(x.rows(1, 0, 2), 1);
    }

    /** Sort 1: ten words; sort 2: two of these. */
    private static GrammarTools hundred() {
        GrammarTools x = new GrammarTools();
        for (int word = 0; word < 8; word++) {
            form(x, 0, 1, word);
        }
        form(x, 0, 1, 20);
        form(x, 0, 1, 40);
        form(x, 0, 2, 61, 61);
        return x;
    }

    private static void hundredRows() {
        GrammarTools x = hundred();
        of(20, "100 are not too many");
        due(x.rows(0, 1, 1), 10);
        due(x.rows(0, 2, 2), 100);
        due(x.rows(0, 2, 3), 0);
        due(x.rows(0, 0, 4), 0);
        of(20, "a like row is no other one");
        form(x, 0, 2, 7, 61);
        due(x.rows(0, 2, 2), 100);
        of(20, "more than 100: SPENT, with this number of CELLS and each greater one");
        form(x, 0, 2, 8, 61);
        due(x.rows(0, 2, 1), 0);
        due(x.rows(0, 2, 2), SPENT);
        due(x.rows(0, 2, 3), SPENT);
        due(x.rows(0, 2, 4), SPENT);
        of(20, "one more than 100");
        GrammarTools y = hundred();
        form(y, 0, 2, 11, 11);
        due(y.rows(0, 2, 1), 0);
        due(y.rows(0, 2, 2), SPENT);
        of(20, "1000 at once");
        GrammarTools z = hundred();
        form(z, 0, 3, 61, 61, 61);
        due(z.rows(0, 2, 2), 100);
        due(z.rows(0, 3, 3), SPENT);
        of(20, "10000 at once");
        GrammarTools w = hundred();
        form(w, 0, 3, 62, 62);
        due(w.rows(0, 3, 3), 0);
        due(w.rows(0, 3, 4), SPENT);
    }

    private static void spentByAnySort() {
        of(20, "if some SORT has more than 100 of them: whatever SORT is asked");
        GrammarTools x = hundred();
        form(x, 0, 2, 11, 11);
        form(x, 0, 0, 9);
        for (int sort = 0; sort < 6; sort++) {
            due(x.rows(0, sort, 1), sort == 0 ? 1 : sort == 1 ? 10 : 0);
            due(x.rows(0, sort, 2), SPENT);
            due(x.rows(0, sort, 4), SPENT);
        }
        of(20, "OUTSIDE ahead of SPENT");
        due(x.rows(0, 6, 2), OUTSIDE);
        due(x.rows(0, 0, 5), OUTSIDE);
        of(20, "the other TELLING is not SPENT");
        due(x.rows(1, 0, 4), 0);
    }

    private static void likeRows() {
        of(20, "rows, not READINGS, are counted");
        GrammarTools x = new GrammarTools();
        form(x, 0, 0, 60, 60);
        form(x, 0, 0, 20);
        form(x, 0, 0, 20);
        form(x, 0, 0, 40);
        for (int n = 1; n <= 4; n++) {
            due(x.rows(0, 0, n), 1 << n);
        }
    }

    private static void twoRefused() {
        GrammarTools x = sums();
        of(21, "OUTSIDE (n), whatever i is");
        for (int n : row(0, 5, -1, MAX, MIN)) {
            due(x.two(0, n, NONE), OUTSIDE);
            due(x.two(0, n, 0), OUTSIDE);
        }
        of(21, "UNKNOWN, also ahead of OUTSIDE");
        due(x.two(2, 1, NONE), UNKNOWN);
        due(x.two(-1, 5, 0), UNKNOWN);
        of(21, "0: there is none; no code, too");
        for (int n = 1; n <= 4; n++) {
            due(x.two(0, n, NONE), 0);
            due(x.two(0, n, 0), NONE);
            due(x.two(1, n, NONE), 0);
            due(x.two(1, n, 0), NONE);
        }
    }

    private static void twoFewestCells() {
        of(21, "that with the fewest CELLS, n at most");
        GrammarTools x = new GrammarTools();
        form(x, 0, 0, 1, 2, 3, 4);
        form(x, 0, 0, 61, 4);
        form(x, 0, 1, 1, 2, 3);
        due(x.two(0, 3, NONE), 0);
        due(x.two(0, 3, 0), NONE);
        due(x.two(0, 4, NONE), 4);
        for (int i = 0; i < 4; i++) {
            due(x.two(0, 4, i), i + 1);
        }
        of(21, "its i-th code (NONE: there is none such)");
        for (int i : row(4, 5, 16, -2, MAX, MIN)) {
            due(x.two(0, 4, i), NONE);
        }
        of(21, "of ROWS of SORT 0");
        form(x, 0, 2, 9);
        form(x, 0, 2, 9);
        due(x.two(0, 4, NONE), 4);
        of(21, "one CELL");
        form(x, 0, 0, 62);
        for (int n = 1; n <= 4; n++) {
            due(x.two(0, n, NONE), 1);
            due(x.two(0, n, 0), 9);
            due(x.two(0, n, 1), NONE);
        }
    }

    private static void twoFirstByCodes() {
        of(21, "of like ones the first by codes");
        GrammarTools x = new GrammarTools();
        int[] codes = {40, 20, 11, 10, 0};
        for (int code : codes) {
            form(x, 0, 0, code, 5);
            form(x, 0, 0, code, 5);
            due(x.two(0, 4, 0), code);
            due(x.two(0, 4, 1), 5);
            due(x.two(0, 4, NONE), 2);
        }
        of(21, "the first code goes ahead of the later ones");
        GrammarTools y = new GrammarTools();
        for (int i = 0; i < 2; i++) {
            form(y, 0, 0, 1, 40, 40);
            form(y, 0, 0, 2, 0, 0);
            form(y, 0, 0, 1, 40, 20);
        }
        int[] first = {1, 40, 20};
        for (int i = 0; i < 3; i++) {
            due(y.two(0, 3, i), first[i]);
        }
        of(21, "a row with one READING alone is not it");
        form(y, 0, 0, 0, 0, 0);
        due(y.two(0, 3, 0), 1);
        of(21, "rows with one READING ahead of it and behind it, told later");
        GrammarTools z = new GrammarTools();
        form(z, 0, 0, 20, 5);
        form(z, 0, 0, 20, 5);
        form(z, 0, 0, 40, 5);
        form(z, 0, 0, 11, 5);
        due(z.rows(0, 0, 2), 3);
        due(z.two(0, 2, NONE), 2);
        due(z.two(0, 2, 0), 20);
        form(z, 0, 0, 10, 5);
        form(z, 0, 0, 20, 4);
        due(z.two(0, 2, 0), 20);
        due(z.two(0, 2, 1), 5);
    }

    private static void twoSpent() {
        of(21, "SPENT with n, also where THE TWO has fewer CELLS");
        GrammarTools x = hundred();
        form(x, 0, 2, 11, 11);
        form(x, 0, 0, 9);
        form(x, 0, 0, 9);
        due(x.two(0, 1, NONE), 1);
        due(x.two(0, 1, 0), 9);
        for (int n = 2; n <= 4; n++) {
            due(x.two(0, n, NONE), SPENT);
            due(x.two(0, n, 0), SPENT);
            due(x.two(0, n, 7), SPENT);
        }
        of(21, "OUTSIDE ahead of SPENT");
        due(x.two(0, 5, NONE), OUTSIDE);
    }

    private static void priceOfOneItem() {
        of(22, "if a CELL of the part fits, the number of the others");
        int[] items = {7, 20, 40};
        int[] fits = {7, 35, 139};
        for (int k = 0; k < 3; k++) {
            GrammarTools x = new GrammarTools();
            form(x, 0, 0, items[k]);
            text(x, 0, fits[k]);
            due(x.price(0, 0), 0);
            text(x, 0, 6, fits[k], 6);
            due(x.price(0, 0), 2);
            text(x, 0, fits[k], fits[k]);
            due(x.price(0, 0), 1);
            of(22, "else the number of all, 1 at least");
            text(x, 0, 6);
            due(x.price(0, 0), 1);
            text(x, 0, 6, 6, 6);
            due(x.price(0, 0), 3);
            x.wipe(0);
            due(x.price(0, 0), 1);
        }
    }

    private static void priceOfEmptyText() {
        of(22, "for a FORM: the least sum over its ITEMS for parts side by side (none, too)");
        GrammarTools x = new GrammarTools();
        form(x, 0, 0, 1, 20, 40, 61, 61);
        form(x, 0, 1, 2, 2, 2);
        due(x.price(0, 0), 9);
        form(x, 0, 1, 3, 3);
        due(x.price(0, 0), 7);
        form(x, 0, 1, 62);
        form(x, 0, 2, 4);
        due(x.price(0, 0), 5);
        of(22, "for a SORT: the least of all its FORMS");
        form(x, 0, 0, 9);
        due(x.price(0, 0), 1);
    }

    private static void noReadingOfAnyRow() {
        of(22, "NOT: no row has a READING");
        GrammarTools x = new GrammarTools();
        text(x, 1, 20);
        for (int t = 0; t < 2; t++) {
            due(x.price(0, t), NOT);
            due(x.mend(0, t, 0), NOT);
        }
        form(x, 0, 1, 20);
        due(x.price(0, 1), NOT);
        form(x, 0, 0, 62);
        due(x.price(0, 1), NOT);
        form(x, 0, 0, 20, 60);
        due(x.price(0, 1), NOT);
        form(x, 0, 2, 61, 62);
        due(x.price(0, 1), NOT);
        due(x.mend(0, 1, 0), NOT);
        due(x.size(0, 0), UNKNOWN);
        form(x, 0, 0, 61);
        due(x.price(0, 1), 0);
        of(22, "a row that no TEXT can hold is one, too");
        GrammarTools y = new GrammarTools();
        form(y, 0, 0, 61, 61, 61, 61);
        form(y, 0, 1, 20, 20, 20, 20, 20);
        due(y.price(0, 0), 20);
        text(y, 0, times(16, 20));
        due(y.price(0, 0), 4);
        of(22, "UNKNOWN, also ahead of NOT");
        due(y.price(2, 0), UNKNOWN);
        due(y.price(-1, 0), UNKNOWN);
        due(y.price(1, 8), UNKNOWN);
        due(y.price(1, -1), UNKNOWN);
        due(y.price(1, 0), NOT);
    }

    private static void priceOfFullText() {
        of(22, "16 CELLS of which none fits, and one, and all");
        GrammarTools x = new GrammarTools();
        form(x, 0, 0, 20);
        text(x, 0, times(16, 1));
        due(x.price(0, 0), 16);
        x.put(0, 15, 20);
        due(x.price(0, 0), 15);
        text(x, 0, times(16, 20));
        due(x.price(0, 0), 15);
        form(x, 0, 0, 60, 60);
        due(x.price(0, 0), 0);
    }

    private static void mendRefused() {
        GrammarTools x = sums();
        of(23, "UNKNOWN (the TREE's number 0 .. 11, too), ahead of NOT");
        for (int tree : row(-1, 12, MAX, MIN)) {
            due(x.mend(0, 0, tree), UNKNOWN);
            due(x.mend(1, 0, tree), UNKNOWN);
        }
        due(x.mend(2, 0, 0), UNKNOWN);
        due(x.mend(0, 8, 0), UNKNOWN);
        of(23, "NOT: the TREE is as it was");
        due(tree(x, 0, 41), 2);
        due(x.mend(1, 7, 0), NOT);
        spelled(x, 0, 41);
        of(23, "a TEXT that reads is mended to what it reads as");
        text(x, 0, 41, 0, 2, 20, 3);
        due(x.mend(0, 0, 1), 6);
        due(x.read(0, 0, 2), 6);
        due(x.like(1, 0, 2, 0), 1);
        due(x.mend(0, 0, 11), 6);
    }

    private static void mendedWithNothing() {
        of(23, "an empty TEXT; else NAME 0, NUMBER 0");
        GrammarTools x = new GrammarTools();
        form(x, 0, 0, 5, 20, 40, 20);
        due(x.mend(0, 0, 0), 1);
        spelled(x, 0, 5, 20, 40, 20);
        of(23, "CELLS that do not fit are as none");
        text(x, 0, 6, 6);
        due(x.price(0, 0), 4);
        due(x.mend(0, 0, 0), 1);
        spelled(x, 0, 5, 20, 40, 20);
        of(23, "an empty TEXT is as it was");
        due(x.wipe(0), 2);
        due(x.mend(0, 0, 0), 1);
        due(x.wipe(0), 0);
    }

    private static void mendedFirstFit() {
        of(23, "of CELLS that fit the first one");
        GrammarTools x = new GrammarTools();
        form(x, 0, 0, 20);
        text(x, 0, 6, 25, 6, 24, 40);
        due(x.mend(0, 0, 0), 1);
        spelled(x, 0, 25);
        form(x, 1, 0, 40);
        text(x, 0, times(16, 139));
        x.put(0, 0, 20);
        x.put(0, 1, 100);
        due(x.mend(1, 0, 0), 1);
        spelled(x, 0, 100);
    }

    private static void mendedLeastForm() {
        of(23, "of FORMS the least with that PRICE");
        GrammarTools x = new GrammarTools();
        form(x, 0, 0, 1, 1);
        form(x, 0, 0, 2);
        form(x, 0, 0, 3);
        form(x, 0, 0, 3);
        due(x.mend(0, 0, 0), 1);
        due(x.node(0, 0, 0), 1);
        text(x, 0, 3);
        due(x.mend(0, 0, 0), 1);
        due(x.node(0, 0, 0), 2);
        text(x, 0, 1, 3);
        // one cell too many for either, one that is missing for word 1
        due(x.price(0, 0), 1);
        due(x.mend(0, 0, 0), 1);
        due(x.node(0, 0, 0), 0);
    }

    private static void mendedShortestPart() {
        of(23, "ITEM by ITEM from the left the part as short as can be with that PRICE in all");
        GrammarTools x = new GrammarTools();
        form(x, 0, 0, 20, 20, 20);
        text(x, 0, 25);
        due(x.price(0, 0), 2);
        due(x.mend(0, 0, 0), 1);
        // nothing for the first two
        spelled(x, 0, 20, 20, 25);
        text(x, 0, 25, 26);
        due(x.mend(0, 0, 0), 1);
        spelled(x, 0, 20, 25, 26);
        text(x, 0, 25, 6, 26, 27, 28);
        due(x.price(0, 0), 2);
        due(x.mend(0, 0, 0), 1);
        // one, two and two of the five cells
        spelled(x, 0, 25, 26, 27);
        of(23, "a longer part where the shorter one would cost more in all");
        GrammarTools y = new GrammarTools();
        form(y, 0, 0, 61, 1);
        form(y, 0, 1, 20, 20);
        text(y, 0, 20, 21, 1);
        due(y.price(0, 0), 0);
        due(y.mend(0, 0, 0), 2);
        spelled(y, 0, 20, 21, 1);
        text(y, 0, 20, 1, 21, 1);
        due(y.price(0, 0), 1);
        due(y.mend(0, 0, 0), 2);
        spelled(y, 0, 20, 21, 1);
    }

    private static void mendedEnds() {
        of(23, "FORMS within themselves with no CELLS: by the least PRICE, it always ends");
        GrammarTools x = new GrammarTools();
        form(x, 0, 0, 60, 60);
        form(x, 0, 0, 60, 1);
        form(x, 0, 0, 1, 60);
        form(x, 0, 0, 60, 61);
        form(x, 0, 1, 61, 60);
        form(x, 0, 1, 62);
        form(x, 0, 2, 60);
        form(x, 0, 2, 1, 1);
        due(x.price(0, 0), NOT);
        form(x, 0, 0, 20);
        due(x.price(0, 0), 1);
        due(x.mend(0, 0, 0), 1);
        due(x.node(0, 0, 0), 7);
        text(x, 0, 20);
        due(x.mend(0, 0, 0), 1);
        text(x, 0, 1, 1);
        due(x.price(0, 0), 1);
        due(x.mend(0, 0, 0), 3);
        spelled(x, 0, 20, 1, 1);
        of(23, "a SORT alone leads upwards alone");
        GrammarTools y = new GrammarTools();
        for (int sort = 0; sort < 5; sort++) {
            form(y, 0, sort, 61 + sort);
        }
        form(y, 0, 5, 60, 60);
        due(y.price(0, 0), NOT);
        form(y, 0, 5, 20);
        due(y.price(0, 0), 1);
        due(y.mend(0, 0, 0), 6);
    }

    private static void mendedFortyNodes() {
        of(23, "40 NODES are not too many");
        GrammarTools x = new GrammarTools();
        form(x, 0, 0, 61, 61, 61);
        form(x, 0, 1, 62, 62, 62, 62);
        form(x, 0, 2, 63, 63);
        form(x, 0, 3, 20);
        due(x.price(0, 0), 24);
        due(x.mend(0, 0, 0), 40);
        due(x.size(0, 1), 24);
        due(x.size(0, 2), 24);
        of(23, "LARGE: 41; the TREE is as it was");
        GrammarTools y = new GrammarTools();
        form(y, 0, 0, 61, 61, 61, 61);
        form(y, 0, 1, 62, 62, 62);
        form(y, 0, 2, 63, 63);
        form(y, 0, 3, 20);
        due(y.mend(0, 0, 0), LARGE);
        due(y.size(0, 0), UNKNOWN);
        due(y.price(0, 0), 24);
        form(y, 0, 0, 40);
        text(y, 0, 45);
        due(y.mend(0, 0, 0), 1);
        text(y, 0, times(16, 20));
        due(y.price(0, 0), 8);
        due(y.mend(0, 0, 0), LARGE);
        spelled(y, 0, 45);
    }
}
