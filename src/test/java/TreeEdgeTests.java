/** Promises 24 to 38: each sentence on trees, their setting and comparing that names an edge, with a test of its own. */
public final class TreeEdgeTests extends Asking {

    public static void main(String[] args) {
        sizesRefused();
        leastAndLargestTrees();
        nodes();
        slots();
        leaves();
        spelledOut();
        written();
        writtenLarge();
        keptTrees();
        struck();
        likeNodes();
        pinned();
        pinsOfNewTrees();
        widths();
        layingRefused();
        lengthsOfCodes();
        gapsBetween();
        reachBeyond();
        leastCostFirst();
        pinsOfEarlierLayings();
        fewestOpenFirst();
        leastSetFirst();
        columnsOfOpenNodes();
        eightSoftNodes();
        laidCodes();
        distances();
        unlikeTellings();
        greatestDistance();
        fullestTree();
        moves();
        movesOfLikeOnes();
        joinRefused();
        joinedInOrder();
        clashes();
        joinedFortyNodes();
        end("the edges of trees hold");
    }

    private static void sizesRefused() {
        GrammarTools x = sums();
        of(24, "UNKNOWN: a TREE that there is not");
        for (int tree : row(0, 11, 12, -1, MAX, MIN)) {
            due(x.size(tree, 0), UNKNOWN);
            due(x.size(tree, 4), UNKNOWN);
        }
        of(24, "OUTSIDE");
        tree(x, 11, 41);
        for (int what : row(-1, 4, MAX, MIN)) {
            due(x.size(11, what), OUTSIDE);
        }
        due(x.size(11, 3), 0);
    }

    private static void leastAndLargestTrees() {
        of(24, "a TREE of one NODE without LEAVES");
        GrammarTools x = new GrammarTools();
        form(x, 1, 0, 7);
        treeOf(x, 1, 0, 7);
        int[] least = {1, 0, 1, 1};
        for (int what = 0; what < 4; what++) {
            due(x.size(0, what), least[what]);
        }
        of(24, "40 NODES in one another");
        GrammarTools y = fortyInOneAnother();
        int[] deep = {40, 1, 40, 0};
        for (int what = 0; what < 4; what++) {
            due(y.size(0, what), deep[what]);
        }
        of(24, "40 NODES, five LEAVES in each of the last ones");
        GrammarTools z = new GrammarTools();
        form(z, 0, 0, 61, 61, 61);
        form(z, 0, 1, 62, 62, 62, 62);
        form(z, 0, 2, 63, 63);
        form(z, 0, 3, 40, 40, 40, 40, 40);
        due(z.mend(0, 0, 0), 40);
        int[] wide = {40, 120, 120, 0};
        for (int what = 0; what < 4; what++) {
            due(z.size(0, what), wide[what]);
        }
        due(z.leaf(0, 119, 0), 40);
        due(z.leaf(0, 119, 1), 39);
        due(z.leaf(0, 119, 2), 4);
        due(z.leaf(0, 120, 0), UNKNOWN);
        due(z.spell(0, 119), 40);
        due(z.spell(0, 120), NONE);
        due(z.lay(0, 60, 3), 239);
        due(z.lay(0, 60, 0), 1 + 10 * 179);
        due(z.distance(0, 0), 0);
        due(z.like(0, 38, 0, 39), 1);
    }

    private static void nodes() {
        GrammarTools x = fortyInOneAnother();
        of(25, "the NODE that it is in (NONE); NODES in it (itself, too)");
        for (int n = 0; n < 40; n++) {
            due(x.node(0, n, 0), n == 39 ? 0 : 1);
            due(x.node(0, n, 1), n == 0 ? NONE : n - 1);
            due(x.node(0, n, 2), 40 - n);
        }
        of(25, "UNKNOWN, also ahead of OUTSIDE");
        for (int n : row(-1, 40, 1000, MAX, MIN)) {
            due(x.node(0, n, 0), UNKNOWN);
            due(x.node(0, n, 4), UNKNOWN);
        }
        due(x.node(1, 0, 0), UNKNOWN);
        due(x.node(12, 0, 0), UNKNOWN);
        due(x.node(-1, 0, 4), UNKNOWN);
        of(25, "OUTSIDE");
        for (int what : row(-1, 4, MAX, MIN)) {
            due(x.node(0, 0, what), OUTSIDE);
        }
        of(25, "its PIN");
        x.pin(0, 39, 2);
        due(x.node(0, 39, 3), 2);
        due(x.node(0, 38, 3), 0);
    }

    private static void slots() {
        of(26, "a FORM without SLOTS");
        GrammarTools x = new GrammarTools();
        form(x, 0, 0, 1, 2);
        form(x, 0, 0, 20, 40, 60, 3, 20);
        form(x, 0, 0, 60, 20, 20, 20, 40);
        tree(x, 0, 1, 2);
        due(x.slot(0, 0, 0), OUTSIDE);
        due(x.slot(0, 0, -1), OUTSIDE);
        of(26, "the code of a LEAF, or 1000 and the number of a NODE");
        tree(x, 0, 20, 139, 1, 2, 3, 35);
        due(x.slot(0, 0, 0), 20);
        due(x.slot(0, 0, 1), 139);
        due(x.slot(0, 0, 2), 1001);
        due(x.slot(0, 0, 3), 35);
        due(x.slot(0, 0, 4), OUTSIDE);
        of(26, "five SLOTS");
        tree(x, 1, 1, 2, 21, 22, 23, 44);
        due(x.slot(1, 0, 0), 1001);
        due(x.slot(1, 0, 4), 44);
        for (int i : row(-1, 5, MAX, MIN)) {
            due(x.slot(1, 0, i), OUTSIDE);
        }
        of(26, "the last of 40 NODES");
        GrammarTools y = fortyInOneAnother();
        due(y.slot(0, 38, 0), 1039);
        due(y.slot(0, 39, 0), 20);
        due(y.slot(0, 40, 0), UNKNOWN);
        of(26, "UNKNOWN, also ahead of OUTSIDE");
        due(x.slot(1, -1, 5), UNKNOWN);
        due(x.slot(2, 0, 0), UNKNOWN);
        due(x.slot(12, 0, 5), UNKNOWN);
    }

    private static void leaves() {
        of(27, "a TREE without LEAVES");
        GrammarTools x = new GrammarTools();
        form(x, 0, 0, 1);
        form(x, 0, 0, 20, 60, 40);
        tree(x, 0, 1);
        due(x.leaf(0, 0, 0), UNKNOWN);
        of(27, "its code, its NODE, its SLOT");
        tree(x, 1, 35, 20, 1, 139, 40);
        int[] codes = {35, 20, 139, 40};
        int[] nodes = {0, 1, 1, 0};
        int[] slots = {0, 0, 2, 2};
        for (int l = 0; l < 4; l++) {
            due(x.leaf(1, l, 0), codes[l]);
            due(x.leaf(1, l, 1), nodes[l]);
            due(x.leaf(1, l, 2), slots[l]);
        }
        of(27, "UNKNOWN, also ahead of OUTSIDE");
        for (int l : row(-1, 4, MAX, MIN)) {
            due(x.leaf(1, l, 0), UNKNOWN);
            due(x.leaf(1, l, 3), UNKNOWN);
        }
        due(x.leaf(2, 0, 0), UNKNOWN);
        due(x.leaf(12, 0, 0), UNKNOWN);
        of(27, "OUTSIDE");
        for (int what : row(-1, 3, MAX, MIN)) {
            due(x.leaf(1, 0, what), OUTSIDE);
        }
    }

    private static void spelledOut() {
        GrammarTools x = sums();
        of(28, "NONE: behind the last code, ahead of the first one");
        tree(x, 0, 2, 41, 3);
        spelled(x, 0, 2, 41, 3);
        for (int i : row(-1, 3, 4, 16, MAX, MIN)) {
            due(x.spell(0, i), NONE);
        }
        of(28, "UNKNOWN");
        for (int tree : row(1, 11, 12, -1, MIN)) {
            due(x.spell(tree, 0), UNKNOWN);
            due(x.spell(tree, -1), UNKNOWN);
        }
    }

    private static void written() {
        GrammarTools x = sums();
        of(29, "a TEXT becomes it, also a shorter one, and a full one");
        text(x, 0, times(16, 6));
        tree(x, 0, 41);
        due(x.write(0, 0), 1);
        cells(x, 0, 41);
        of(29, "what is WRITTEN reads as the TREE");
        tree(x, 1, 4, 25, 5, 2, 41, 0, 42, 3);
        due(x.write(1, 0), 8);
        due(x.read(0, 0, 2), x.size(1, 0));
        due(x.like(1, 0, 2, 0), 1);
        of(29, "UNKNOWN");
        due(x.write(3, 0), UNKNOWN);
        due(x.write(12, 0), UNKNOWN);
        due(x.write(-1, 0), UNKNOWN);
        due(x.write(0, 8), UNKNOWN);
        due(x.write(0, -1), UNKNOWN);
        due(x.at(0, 7), 3);
    }

    private static void writtenLarge() {
        of(29, "16 are not too many");
        GrammarTools x = new GrammarTools();
        form(x, 0, 0, 61, 61, 61, 61);
        form(x, 0, 1, 20, 20, 20, 20);
        due(x.mend(0, 0, 0), 5);
        due(x.size(0, 2), 16);
        due(x.write(0, 3), 16);
        due(x.at(3, 15), 20);
        due(x.cell(3, 1), FULL);
        of(29, "LARGE: more than 16; the TEXT is as it was");
        GrammarTools y = new GrammarTools();
        form(y, 0, 0, 61, 61, 61, 61, 7);
        form(y, 0, 1, 20, 20, 20, 20);
        due(y.mend(0, 0, 0), 5);
        due(y.size(0, 2), 17);
        text(y, 3, 1, 2);
        due(y.write(0, 3), LARGE);
        cells(y, 3, 1, 2);
        of(29, "UNKNOWN ahead of LARGE");
        due(y.write(0, 8), UNKNOWN);
    }

    private static void keptTrees() {
        GrammarTools x = sums();
        tree(x, 0, 41, 0, 42);
        for (int n = 0; n < 4; n++) {
            x.pin(0, n, 1 + n % 2);
        }
        of(30, "a TREE becomes TREE from, without PINS: its NODES");
        due(x.keep(11, 0), 4);
        spelled(x, 11, 41, 0, 42);
        for (int n = 0; n < 4; n++) {
            due(x.node(11, n, 3), 0);
            due(x.node(0, n, 3), 1 + n % 2);
        }
        of(30, "in the place of one that is there");
        tree(x, 5, 2, 20, 3);
        due(x.keep(5, 0), 4);
        spelled(x, 5, 41, 0, 42);
        of(30, "the one does not follow the other");
        tree(x, 0, 43);
        spelled(x, 5, 41, 0, 42);
        x.strike(0);
        due(x.size(5, 0), 4);
        of(30, "itself: its PINS go");
        x.pin(5, 0, 1);
        due(x.keep(5, 5), 4);
        due(x.node(5, 0, 3), 0);
        of(30, "its TELLING, too");
        tellSums(x, 1);
        treeOf(x, 1, 1, 44);
        due(x.keep(5, 1), 2);
        due(x.size(5, 3), 1);
        of(30, "UNKNOWN");
        due(x.keep(5, 0), UNKNOWN);
        due(x.keep(0, 0), UNKNOWN);
        due(x.keep(12, 5), UNKNOWN);
        due(x.keep(-1, 5), UNKNOWN);
        due(x.keep(5, 12), UNKNOWN);
        due(x.keep(5, -1), UNKNOWN);
        due(x.size(5, 0), 2);
        due(x.size(0, 0), UNKNOWN);
    }

    private static void struck() {
        GrammarTools x = fortyInOneAnother();
        of(31, "its NODES; it is there no more");
        due(x.strike(0), 40);
        due(x.size(0, 0), UNKNOWN);
        due(x.node(0, 0, 0), UNKNOWN);
        due(x.spell(0, 0), UNKNOWN);
        of(31, "UNKNOWN, also the second time");
        due(x.strike(0), UNKNOWN);
        due(x.strike(12), UNKNOWN);
        due(x.strike(-1), UNKNOWN);
        of(31, "its number can be used again");
        due(tree(x, 0, 20), 1);
        due(x.strike(0), 1);
    }

    private static void likeNodes() {
        GrammarTools x = pairs();
        tree(x, 0, 2, 20, 2, 20, 20);
        tree(x, 1, 2, 20, 20);
        of(32, "LIKE, if FORMS, NAMES and NUMBERS are, all through");
        due(x.like(0, 2, 1, 0), 1);
        due(x.like(0, 0, 1, 0), 0);
        due(x.like(0, 1, 0, 3), 1);
        tree(x, 2, 2, 20, 21);
        due(x.like(1, 0, 2, 0), 0);
        tree(x, 3, 2, 20, 40);
        due(x.like(1, 0, 3, 0), 0);
        of(32, "PINS are not looked at");
        x.pin(1, 0, 1);
        due(x.like(0, 2, 1, 0), 1);
        of(32, "0: of unlike TELLINGS");
        form(x, 1, 0, 20);
        treeOf(x, 1, 4, 20);
        tree(x, 5, 20);
        due(x.like(4, 0, 5, 0), 0);
        due(x.like(5, 0, 4, 0), 0);
        of(32, "UNKNOWN, also of unlike TELLINGS");
        due(x.like(0, 5, 1, 0), UNKNOWN);
        due(x.like(0, -1, 1, 0), UNKNOWN);
        due(x.like(0, 0, 1, 3), UNKNOWN);
        due(x.like(4, 0, 5, 1), UNKNOWN);
        due(x.like(6, 0, 1, 0), UNKNOWN);
        due(x.like(0, 0, 12, 0), UNKNOWN);
        due(x.like(-1, 0, 1, 0), UNKNOWN);
    }

    private static void pinned() {
        GrammarTools x = pairs();
        tree(x, 0, 2, 20, 20);
        of(33, "PIN becomes how (0 none): what it was");
        for (int n = 0; n < 3; n++) {
            due(x.pin(0, n, 0), 0);
            due(x.pin(0, n, 1), 0);
            due(x.pin(0, n, 2), 1);
            due(x.pin(0, n, 2), 2);
        }
        of(33, "OUTSIDE");
        for (int how : row(-1, 3, MAX, MIN)) {
            due(x.pin(0, 0, how), OUTSIDE);
        }
        due(x.pin(0, 0, 0), 2);
        of(33, "UNKNOWN, also ahead of OUTSIDE");
        for (int n : row(-1, 3, MAX, MIN)) {
            due(x.pin(0, n, 1), UNKNOWN);
            due(x.pin(0, n, 3), UNKNOWN);
        }
        due(x.pin(1, 0, 1), UNKNOWN);
        due(x.pin(12, 0, 1), UNKNOWN);
        of(33, "the last of 40 NODES");
        GrammarTools y = fortyInOneAnother();
        due(y.pin(0, 39, 1), 0);
        due(y.pin(0, 40, 1), UNKNOWN);
        due(y.node(0, 39, 3), 1);
    }

    private static void pinsOfNewTrees() {
        of(33, "PINS of NODES (none at first), also of a TREE in the place of another one");
        GrammarTools x = pairs();
        int[] row = {2, 20, 20};
        show(x, row(2, 20, 20), row(2, 20, 20));
        x.find(0);
        form(x, 1, 0, 20);
        form(x, 1, 0, 2, 60, 60);
        x.map(0, 0, 0, 0, 0, 0, 0);
        x.map(2, 1, 0, 1, 0, 0, 0);
        tree(x, 1, row);
        x.pin(1, 0, 1);
        for (int way = 0; way < 5; way++) {
            tree(x, 0, row);
            x.pin(0, 0, 1);
            x.pin(0, 2, 2);
            text(x, 0, row);
            due(way == 0 ? x.read(0, 0, 0) : way == 1 ? x.mend(0, 0, 0) : way == 2 ? x.join(1, 1, 1, 0) + 3
                : way == 3 ? x.apply(0, 1, 0) + 2 : x.carry(1, 0), 3);
            due(x.node(0, 0, 3), 0);
            due(x.node(0, 2, 3), 0);
        }
    }

    private static void widths() {
        GrammarTools x = pairs();
        tree(x, 0, 2, 20, 20);
        of(34, "a WIDTH (5 .. 60)");
        due(x.lay(0, 5, 1), 1);
        due(x.lay(0, 60, 1), 1);
        for (int width : row(4, 61, 0, -1, MAX, MIN)) {
            due(x.lay(0, width, 0), OUTSIDE);
            of(35, "a WIDTH (5 .. 60)");
            due(x.laid(0, width, 0, 0), OUTSIDE);
        }
        due(x.laid(0, 5, 0, 0), 0);
        due(x.laid(0, 60, 0, 0), 0);
    }

    private static void layingRefused() {
        GrammarTools x = pairs();
        tree(x, 0, 2, 20, 20);
        of(34, "OUTSIDE");
        for (int what : row(-1, 4, MAX, MIN)) {
            due(x.lay(0, 60, what), OUTSIDE);
        }
        of(34, "UNKNOWN, also ahead of OUTSIDE");
        for (int tree : row(1, 12, -1, MAX, MIN)) {
            due(x.lay(tree, 60, 0), UNKNOWN);
            due(x.lay(tree, 4, 4), UNKNOWN);
        }
        of(35, "OUTSIDE, also ahead of NONE");
        for (int what : row(-1, 2, MAX, MIN)) {
            due(x.laid(0, 60, 0, what), OUTSIDE);
            due(x.laid(0, 60, 99, what), OUTSIDE);
        }
        due(x.laid(0, 4, 99, 0), OUTSIDE);
        of(35, "UNKNOWN, also ahead of OUTSIDE");
        for (int tree : row(1, 12, -1, MAX, MIN)) {
            due(x.laid(tree, 60, 0, 0), UNKNOWN);
            due(x.laid(tree, 4, 99, 2), UNKNOWN);
        }
    }

    private static void lengthsOfCodes() {
        of(34, "a WORD is as long as its LENGTH");
        GrammarTools x = new GrammarTools();
        form(x, 0, 0, 11);
        form(x, 0, 0, 20);
        form(x, 0, 0, 40);
        tree(x, 0, 11);
        due(x.lay(0, 60, 3), 3);
        x.length(0, 11, 1);
        due(x.lay(0, 60, 3), 1);
        x.length(0, 11, 9);
        due(x.lay(0, 60, 3), 9);
        x.length(1, 11, 5);
        due(x.lay(0, 60, 3), 9);
        of(34, "a NAME 2");
        tree(x, 0, 20);
        due(x.lay(0, 60, 3), 2);
        tree(x, 0, 35);
        due(x.lay(0, 60, 3), 2);
        of(34, "a NUMBER as its figures: 0, 9, 10, 99");
        int[] codes = {40, 49, 50, 139};
        for (int i = 0; i < 4; i++) {
            tree(x, 0, codes[i]);
            due(x.lay(0, 60, 3), i < 2 ? 1 : 2);
        }
    }

    private static void gapsBetween() {
        GrammarTools x = new GrammarTools();
        form(x, 0, 0, 1, 60, 2);
        form(x, 0, 0, 3, 4);
        tree(x, 0, 1, 3, 4, 2);
        of(34, "1 a blank (at first)");
        due(x.lay(0, 60, 3), 15);
        of(34, "0 tight");
        x.gap(0, 0, 0, 0);
        due(x.lay(0, 60, 3), 14);
        x.gap(0, 0, 1, 0);
        x.gap(0, 1, 0, 0);
        due(x.lay(0, 60, 3), 12);
        due(x.laid(0, 60, 3, 1), 9);
        of(34, "2 SOFT, not OPEN: a blank");
        x.gap(0, 0, 0, 2);
        x.gap(0, 0, 1, 2);
        x.gap(0, 1, 0, 2);
        due(x.lay(0, 60, 3), 15);
        due(x.lay(0, 60, 2), 0);
        due(x.lay(0, 60, 1), 1);
        of(34, "a NODE without SOFT GAPS is not OPEN, whatever its PIN");
        x.gap(0, 1, 0, 1);
        x.pin(0, 1, 1);
        due(x.lay(0, 60, 1), 1);
        due(x.lay(0, 60, 2), 0);
        of(34, "each of its SOFT GAPS is a new line");
        x.pin(0, 0, 1);
        due(x.lay(0, 60, 1), 3);
        due(x.lay(0, 60, 2), 1);
        due(x.lay(0, 60, 3), 2 + 7);
        x.gap(0, 0, 0, 0);
        due(x.lay(0, 60, 1), 2);
        due(x.lay(0, 60, 3), 3 + 7);
    }

    private static void reachBeyond() {
        of(34, "lines, and 10 times what lines reach beyond WIDTH");
        GrammarTools x = new GrammarTools();
        form(x, 0, 0, 1, 2);
        x.length(0, 1, 4);
        x.length(0, 2, 4);
        tree(x, 0, 1, 2);
        due(x.lay(0, 9, 0), 1);
        due(x.lay(0, 8, 0), 11);
        due(x.lay(0, 5, 0), 41);
        of(34, "of all lines in all");
        x.gap(0, 0, 0, 2);
        x.length(0, 1, 9);
        x.length(0, 2, 9);
        due(x.lay(0, 19, 0), 1);
        due(x.lay(0, 18, 0), 2);
        due(x.lay(0, 11, 0), 2);
        due(x.lay(0, 10, 0), 2 + 10);
        due(x.lay(0, 9, 0), 2 + 20);
        due(x.lay(0, 8, 0), 2 + 10 + 30);
        due(x.lay(0, 5, 0), 2 + 40 + 60);
        due(x.lay(0, 5, 3), 11);
    }

    private static void leastCostFirst() {
        of(34, "a line more costs less than a column beyond");
        GrammarTools x = new GrammarTools();
        form(x, 0, 0, 1, 1, 1, 1, 1);
        tree(x, 0, 1, 1, 1, 1, 1);
        for (int i = 0; i < 4; i++) {
            x.gap(0, 0, i, 2);
        }
        // 19 columns in one line, or 5 lines of 5 at most
        due(x.lay(0, 19, 0), 1);
        due(x.lay(0, 18, 0), 5);
        due(x.lay(0, 18, 1), 5);
        due(x.lay(0, 18, 2), 1);
        due(x.lay(0, 5, 0), 5);
        of(34, "with all PINS kept, whatever it costs");
        x.pin(0, 0, 2);
        due(x.lay(0, 5, 0), 141);
        due(x.lay(0, 5, 2), 0);
        x.pin(0, 0, 1);
        due(x.lay(0, 60, 0), 5);
        due(x.lay(0, 60, 2), 1);
    }

    private static void pinsOfEarlierLayings() {
        of(34, "PINS that are no more, and those of another TREE, are not kept");
        GrammarTools x = new GrammarTools();
        form(x, 0, 0, 1, 1, 1);
        x.gap(0, 0, 0, 2);
        tree(x, 0, 1, 1, 1);
        tree(x, 1, 1, 1, 1);
        x.pin(0, 0, 2);
        due(x.lay(0, 10, 2), 0);
        due(x.lay(1, 10, 2), 1);
        x.pin(0, 0, 0);
        due(x.lay(0, 10, 2), 1);
        x.pin(0, 0, 1);
        due(x.lay(0, 60, 2), 1);
        due(x.lay(1, 60, 2), 0);
        x.pin(0, 0, 2);
        due(x.lay(0, 10, 2), 0);
        x.keep(0, 0);
        due(x.lay(0, 10, 2), 1);
    }

    private static void fewestOpenFirst() {
        of(34, "of like ones the fewest OPEN");
        GrammarTools x = new GrammarTools();
        form(x, 0, 0, 61, 62, 5);
        form(x, 0, 1, 1, 2);
        form(x, 0, 2, 3, 3, 3);
        x.gap(0, 0, 1, 2);
        x.gap(0, 1, 0, 2);
        x.gap(0, 2, 0, 2);
        x.gap(0, 2, 1, 2);
        x.length(0, 1, 9);
        x.length(0, 2, 1);
        x.length(0, 3, 1);
        x.length(0, 5, 9);
        tree(x, 0, 1, 2, 3, 3, 3, 5);
        // 13 columns: the last one alone, or the first two, make three lines that fit
        due(x.lay(0, 13, 0), 3);
        due(x.lay(0, 13, 1), 3);
        due(x.lay(0, 13, 2), 4);
        x.pin(0, 2, 2);
        due(x.lay(0, 13, 0), 3);
        due(x.lay(0, 13, 2), 3);
    }

    private static void leastSetFirst() {
        of(34, "then the SET that is least as a number");
        GrammarTools x = new GrammarTools();
        form(x, 0, 0, 61, 61, 61);
        form(x, 0, 1, 1, 1);
        x.gap(0, 1, 0, 2);
        tree(x, 0, 1, 1, 1, 1, 1, 1);
        // six words of 3: 23 columns; 3, 11 and 19 stand ahead of the breaks, 21, 13 and 5 behind them
        due(x.lay(0, 23, 2), 0);
        due(x.lay(0, 22, 2), 1);
        due(x.lay(0, 20, 2), 2);
        due(x.lay(0, 19, 2), 2);
        due(x.lay(0, 13, 2), 2);
        due(x.lay(0, 13, 0), 2);
        x.pin(0, 2, 2);
        due(x.lay(0, 22, 2), 1);
        due(x.lay(0, 20, 2), 4);
        due(x.lay(0, 13, 2), 5);
        x.pin(0, 1, 2);
        due(x.lay(0, 22, 2), 4);
        x.pin(0, 3, 2);
        due(x.lay(0, 5, 2), 0);
        due(x.lay(0, 5, 0), 1 + 180);
    }

    private static void columnsOfOpenNodes() {
        of(34, "which begins at column 2 for each OPEN NODE that it is in, itself too");
        GrammarTools x = new GrammarTools();
        form(x, 0, 0, 1, 60);
        form(x, 0, 0, 2);
        x.gap(0, 0, 0, 2);
        tree(x, 0, 1, 1, 1, 2);
        int[][] columns = {{0, 4, 8, 12}, {0, 2, 6, 10}, {0, 4, 2, 6}, {0, 2, 4, 8}, {0, 4, 8, 2}, {0, 2, 6, 4}, {0, 4, 2, 4}, {0, 2, 4, 6}};
        for (int set = 0; set < 8; set++) {
            for (int n = 0; n < 3; n++) {
                x.pin(0, n, (set >> n & 1) == 1 ? 1 : 2);
            }
            due(x.lay(0, 60, 2), set);
            due(x.lay(0, 60, 1), 1 + Integer.bitCount(set));
            for (int i = 0; i < 4; i++) {
                due(x.laid(0, 60, i, 1), columns[set][i]);
                due(x.laid(0, 60, i, 0), Integer.bitCount(set & (1 << i) - 1));
            }
        }
    }

    private static void eightSoftNodes() {
        GrammarTools x = new GrammarTools();
        form(x, 0, 0, 1, 60);
        form(x, 0, 0, 2);
        form(x, 0, 0, 3, 60);
        x.gap(0, 0, 0, 2);
        of(34, "of the first eight NODES with SOFT GAPS");
        tree(x, 0, 1, 1, 1, 1, 1, 1, 1, 1, 2);
        for (int n = 0; n < 8; n++) {
            x.pin(0, n, 1);
        }
        due(x.lay(0, 60, 2), 255);
        due(x.lay(0, 60, 1), 9);
        due(x.laid(0, 60, 8, 0), 8);
        due(x.laid(0, 60, 8, 1), 16);
        of(34, "those behind are shut, whatever their PINS");
        tree(x, 0, 1, 1, 1, 1, 1, 1, 1, 1, 1, 1, 2);
        for (int n = 0; n < 10; n++) {
            x.pin(0, n, 1);
        }
        due(x.lay(0, 60, 2), 255);
        due(x.lay(0, 60, 1), 9);
        int[] last = {16, 20, 24};
        for (int i = 8; i < 11; i++) {
            due(x.laid(0, 60, i, 0), 8);
            due(x.laid(0, 60, i, 1), last[i - 8]);
        }
        for (int n = 0; n < 8; n++) {
            x.pin(0, n, 2);
        }
        due(x.lay(0, 60, 1), 1);
        due(x.lay(0, 60, 2), 0);
        of(34, "NODES without SOFT GAPS are not among the eight");
        tree(x, 0, 3, 1, 3, 1, 3, 1, 3, 1, 3, 1, 3, 1, 3, 1, 2);
        for (int n = 0; n < 15; n++) {
            x.pin(0, n, 1);
        }
        due(x.lay(0, 60, 2), 127);
        due(x.lay(0, 60, 1), 8);
    }

    private static void laidCodes() {
        GrammarTools x = pairs();
        tree(x, 0, 2, 20, 50);
        of(35, "its line, its first column");
        int[] columns = {0, 4, 7};
        for (int i = 0; i < 3; i++) {
            due(x.laid(0, 60, i, 0), 0);
            due(x.laid(0, 60, i, 1), columns[i]);
        }
        of(35, "NONE: there is none such");
        for (int i : row(-1, 3, 4, MAX, MIN)) {
            due(x.laid(0, 60, i, 0), NONE);
            due(x.laid(0, 60, i, 1), NONE);
        }
        of(35, "the last of many codes");
        GrammarTools y = fortyInOneAnother();
        due(y.laid(0, 5, 39, 1), 39 * 4);
        due(y.laid(0, 5, 40, 1), NONE);
    }

    private static void distances() {
        of(36, "a TREE and itself: 0");
        GrammarTools x = pairs();
        tree(x, 0, 20);
        due(x.distance(0, 0), 0);
        of(36, "PINS are not looked at");
        x.keep(1, 0);
        x.pin(1, 0, 1);
        due(x.distance(0, 1), 0);
        of(36, "another NAME: 1; another NUMBER: 1; another kind of LEAF and another FORM: 2");
        tree(x, 1, 35);
        due(x.distance(0, 1), 1);
        tree(x, 2, 40);
        tree(x, 3, 139);
        due(x.distance(2, 3), 1);
        due(x.distance(0, 2), 2);
        of(36, "striking one out: those in it go up into its place");
        GrammarTools y = new GrammarTools();
        form(y, 0, 0, 20);
        form(y, 0, 0, 2, 60);
        form(y, 0, 0, 3, 60, 60);
        form(y, 0, 0, 4, 60, 60, 60);
        tree(y, 0, 2, 2, 20);
        tree(y, 1, 20);
        due(y.distance(0, 1), 2);
        due(y.distance(1, 0), 2);
        tree(y, 2, 3, 20, 3, 21, 22);
        tree(y, 3, 4, 20, 21, 22);
        // one goes out, the other becomes a form of three
        due(y.distance(2, 3), 2);
        due(y.distance(3, 2), 2);
        of(36, "a row keeps its order");
        tree(y, 4, 4, 22, 21, 20);
        due(y.distance(3, 4), 2);
        tree(y, 5, 4, 21, 22, 20);
        due(y.distance(3, 5), 3);
        of(36, "UNKNOWN");
        due(y.distance(0, 6), UNKNOWN);
        due(y.distance(6, 0), UNKNOWN);
        due(y.distance(0, 12), UNKNOWN);
        due(y.distance(-1, 0), UNKNOWN);
    }

    private static void unlikeTellings() {
        of(36, "of any TELLINGS; NODES of unlike TELLINGS are unlike, LEAVES may be LIKE");
        GrammarTools x = pairs();
        form(x, 1, 0, 20);
        form(x, 1, 0, 40);
        form(x, 1, 0, 2, 60, 60);
        tree(x, 0, 2, 20, 40);
        treeOf(x, 1, 1, 2, 20, 40);
        due(x.distance(0, 1), 3);
        due(x.distance(1, 0), 3);
        due(x.distance(1, 1), 0);
        treeOf(x, 1, 2, 2, 40, 20);
        due(x.distance(0, 2), 5);
        treeOf(x, 1, 3, 20);
        due(x.distance(0, 3), 4);
        of(36, "a TREE without LEAVES");
        form(x, 1, 0, 9);
        treeOf(x, 1, 4, 9);
        tree(x, 5, 20);
        due(x.distance(4, 5), 2);
        due(x.distance(4, 4), 0);
    }

    private static void greatestDistance() {
        of(36, "40 NODES and 40 NODES, each with all LEAVES unlike");
        GrammarTools x = new GrammarTools();
        for (int v = 0; v < 2; v++) {
            form(x, v, 0, 61, 61, 61);
            form(x, v, 1, 62, 62, 62, 62);
            form(x, v, 2, 63, 63);
            form(x, v, 3, v == 0 ? 20 : 40, v == 0 ? 20 : 40);
            due(x.mend(v, 0, v), 40);
            due(x.size(v, 1), 48);
        }
        due(x.distance(0, 1), 88);
        due(x.distance(1, 0), 88);
        of(36, "40 NODES and one");
        form(x, 0, 0, 5, 20);
        tree(x, 2, 5, 20);
        due(x.distance(0, 2), 87);
        of(36, "40 NODES in one another and 39");
        GrammarTools y = fortyInOneAnother();
        tree(y, 1, 2, 20);
        for (int n = 2; n < 39; n++) {
            y.apply(0, 1, 1);
        }
        due(y.size(1, 0), 39);
        due(y.distance(0, 1), 1);
        due(y.distance(0, 0), 0);
    }

    private static void fullestTree() {
        of(36, "40 NODES with five SLOTS each: 201 PIECES");
        GrammarTools x = fives();
        fullest(x, 0);
        fullest(x, 1);
        due(x.size(0, 0), 40);
        due(x.size(1, 1), 161);
        due(x.distance(0, 0), 0);
        due(x.distance(0, 1), 40);
        due(x.distance(1, 0), 40);
        tree(x, 2, times(5, 35));
        due(x.distance(0, 2), 39 + 156 + 5);
        due(x.distance(2, 0), 39 + 156 + 5);
        of(37, "39 of its NODES; none of the other TELLING");
        due(x.move(0, 0, 2), 39);
        due(x.move(0, 1, 2), NONE);
        of(24, "it is WRITTEN, kept and joined");
        due(x.size(0, 2), 161);
        due(x.spell(0, 160), 20);
        due(x.spell(0, 161), NONE);
        due(x.leaf(0, 160, 1), 0);
        due(x.leaf(0, 160, 2), 4);
        due(x.leaf(0, 0, 1), 39);
        due(x.node(0, 39, 1), 38);
        due(x.slot(0, 0, 4), 20);
        due(x.write(0, 0), LARGE);
        due(x.keep(3, 0), 40);
        due(x.join(0, 3, 0, 4), 0);
        due(x.like(4, 0, 0, 0), 1);
        due(x.join(2, 0, 0, 4), 0);
        due(x.size(4, 1), 161);
        of(34, "it is laid in one line");
        due(x.lay(0, 60, 3), 161 * 3 - 1);
        due(x.laid(0, 60, 160, 1), 160 * 3);
    }

    private static void moves() {
        GrammarTools x = pairs();
        of(37, "not 0 both: a TREE of one NODE and itself");
        tree(x, 0, 20);
        for (int what = 0; what < 3; what++) {
            due(x.move(0, 0, what), NONE);
        }
        of(37, "0 of the one alone");
        tree(x, 1, 2, 20, 40);
        int[] into = {0, 1, 1};
        int[] outOf = {1, 0, 1};
        for (int what = 0; what < 3; what++) {
            due(x.move(0, 1, what), into[what]);
            due(x.move(1, 0, what), outOf[what]);
        }
        of(37, "NONE: there is none");
        tree(x, 2, 2, 21, 21);
        for (int what = 0; what < 3; what++) {
            due(x.move(0, 2, what), NONE);
        }
        of(37, "of unlike TELLINGS there is none");
        form(x, 1, 0, 20);
        form(x, 1, 0, 2, 60, 60);
        treeOf(x, 1, 3, 2, 20, 20);
        due(x.move(0, 3, 2), NONE);
        of(37, "OUTSIDE");
        for (int what : row(-1, 3, MAX, MIN)) {
            due(x.move(0, 1, what), OUTSIDE);
            due(x.move(0, 3, what), OUTSIDE);
        }
        of(37, "UNKNOWN, also ahead of OUTSIDE");
        due(x.move(0, 4, 0), UNKNOWN);
        due(x.move(4, 0, 3), UNKNOWN);
        due(x.move(12, 0, 0), UNKNOWN);
        due(x.move(0, -1, 3), UNKNOWN);
    }

    private static void movesOfLikeOnes() {
        of(37, "that with the most NODES in it");
        GrammarTools x = pairs();
        tree(x, 0, 2, 20, 2, 21, 2, 22, 23);
        tree(x, 1, 2, 2, 21, 2, 22, 23, 40);
        int[] most = {2, 1, 5};
        for (int what = 0; what < 3; what++) {
            due(x.move(0, 1, what), most[what]);
        }
        of(37, "of like ones the least n, then m");
        tree(x, 2, 2, 2, 20, 20, 2, 20, 20);
        int[] least = {1, 1, 3};
        for (int what = 0; what < 3; what++) {
            due(x.move(2, 2, what), least[what]);
        }
        tree(x, 3, 2, 2, 22, 23, 2, 20, 20);
        tree(x, 4, 2, 2, 20, 20, 2, 22, 23);
        int[] firstOfTheOne = {1, 4, 3};
        for (int what = 0; what < 3; what++) {
            due(x.move(3, 4, what), firstOfTheOne[what]);
        }
        of(37, "39 of 40 NODES");
        GrammarTools y = fortyInOneAnother();
        tree(y, 1, 3, 20, 21);
        due(y.move(0, 0, 0), 1);
        due(y.move(0, 0, 2), 39);
        due(y.move(0, 1, 0), 39);
        due(y.move(0, 1, 1), 1);
    }

    private static void joinRefused() {
        GrammarTools x = pairs();
        form(x, 1, 0, 20);
        tree(x, 0, 20);
        treeOf(x, 1, 1, 20);
        of(38, "UNKNOWN (the TREE's number 0 .. 11, too), ahead of NOT");
        for (int tree : row(-1, 12, MAX, MIN)) {
            due(x.join(0, 0, 0, tree), UNKNOWN);
            due(x.join(0, 1, 0, tree), UNKNOWN);
            due(x.join(tree, 0, 0, 0), UNKNOWN);
            due(x.join(0, tree, 1, 0), UNKNOWN);
            due(x.join(1, 0, tree, 0), UNKNOWN);
        }
        due(x.join(2, 0, 0, 3), UNKNOWN);
        due(x.join(0, 2, 0, 3), UNKNOWN);
        due(x.join(0, 0, 2, 3), UNKNOWN);
        of(38, "NOT: they are of unlike TELLINGS; TREE to is as it was");
        due(x.join(0, 0, 1, 3), NOT);
        due(x.join(0, 1, 0, 3), NOT);
        due(x.join(0, 1, 1, 3), NOT);
        due(x.join(1, 0, 0, 3), NOT);
        due(x.join(1, 1, 0, 3), NOT);
        due(x.size(3, 0), UNKNOWN);
        of(38, "TREE to may be of the other TELLING, or one of the three, or a new one");
        due(x.join(0, 0, 0, 1), 0);
        due(x.size(1, 3), 0);
        due(x.join(0, 1, 0, 0), 0);
        due(x.join(0, 1, 0, 11), 0);
        spelled(x, 11, 20);
    }

    private static void joinedInOrder() {
        GrammarTools x = pairs();
        tree(x, 0, 2, 20, 40);
        tree(x, 1, 2, 21, 40);
        tree(x, 2, 41);
        of(38, "if l is LIKE b: r");
        due(x.join(0, 0, 2, 3), 0);
        spelled(x, 3, 41);
        of(38, "if r is: l");
        due(x.join(0, 2, 0, 3), 0);
        spelled(x, 3, 41);
        of(38, "if l is LIKE r: l");
        due(x.join(0, 2, 2, 3), 0);
        spelled(x, 3, 41);
        due(x.join(2, 0, 0, 3), 0);
        spelled(x, 3, 2, 20, 40);
        of(38, "all three LIKE");
        due(x.join(0, 0, 0, 3), 0);
        spelled(x, 3, 2, 20, 40);
        of(38, "NODES of one FORM: with all its SLOTS joined so, a NAME, too");
        tree(x, 4, 3, 20, 21, 22);
        tree(x, 5, 3, 25, 21, 22);
        tree(x, 6, 3, 20, 41, 23);
        due(x.join(4, 5, 6, 3), 0);
        spelled(x, 3, 3, 25, 41, 23);
        tree(x, 6, 3, 25, 21, 23);
        due(x.join(4, 5, 6, 3), 0);
        spelled(x, 3, 3, 25, 21, 23);
    }

    private static void clashes() {
        GrammarTools x = pairs();
        of(38, "else a CLASH: b; of LEAVES");
        tree(x, 0, 20);
        tree(x, 1, 21);
        tree(x, 2, 22);
        due(x.join(0, 1, 2, 3), 1);
        spelled(x, 3, 20);
        of(38, "of NODES of unlike FORMS");
        tree(x, 1, 40);
        due(x.join(0, 1, 2, 3), 1);
        spelled(x, 3, 20);
        tree(x, 2, 2, 20, 20);
        due(x.join(0, 1, 2, 3), 1);
        due(x.join(2, 0, 1, 3), 1);
        spelled(x, 3, 2, 20, 20);
        of(38, "where two of the three are of one FORM alone");
        tree(x, 4, 2, 20, 40);
        tree(x, 5, 2, 21, 41);
        tree(x, 6, 22);
        due(x.join(4, 5, 6, 3), 1);
        spelled(x, 3, 2, 20, 40);
        due(x.join(4, 6, 5, 3), 1);
        spelled(x, 3, 2, 20, 40);
        due(x.join(6, 4, 5, 3), 1);
        spelled(x, 3, 22);
        of(38, "how many CLASHES: each by itself");
        tree(x, 4, 3, 20, 21, 22);
        tree(x, 5, 3, 25, 26, 27);
        tree(x, 6, 3, 30, 31, 40);
        due(x.join(4, 5, 6, 3), 3);
        spelled(x, 3, 3, 20, 21, 22);
        tree(x, 6, 3, 30, 21, 27);
        due(x.join(4, 5, 6, 3), 1);
        spelled(x, 3, 3, 20, 26, 27);
        of(38, "a CLASH of whole parts is one");
        tree(x, 7, 2, 2, 20, 20, 20);
        tree(x, 8, 2, 40, 20);
        tree(x, 9, 2, 3, 20, 20, 20, 21);
        due(x.join(7, 8, 9, 3), 1);
        spelled(x, 3, 2, 2, 20, 20, 21);
    }

    private static void joinedFortyNodes() {
        GrammarTools x = chains();
        tree(x, 1, 3, 20, 21);
        x.keep(2, 1);
        x.keep(3, 1);
        turnOf(x, 1, row(20), row(2, 20));
        turnOf(x, 2, row(21), row(2, 21));
        for (int i = 0; i < 30; i++) {
            x.apply(1, 2, 2);
        }
        for (int i = 0; i < 7; i++) {
            x.apply(2, 3, 3);
        }
        due(x.size(2, 0), 33);
        due(x.size(3, 0), 10);
        of(38, "40 NODES are not too many");
        due(x.join(1, 2, 3, 4), 0);
        due(x.size(4, 0), 40);
        due(x.join(1, 3, 2, 4), 0);
        due(x.size(4, 0), 40);
        of(38, "LARGE: more than 40 NODES; TREE to is as it was");
        x.apply(2, 3, 3);
        due(x.join(1, 2, 3, 4), LARGE);
        due(x.join(1, 3, 2, 4), LARGE);
        due(x.size(4, 0), 40);
        due(x.join(1, 2, 3, 5), LARGE);
        due(x.size(5, 0), UNKNOWN);
        due(x.join(1, 2, 3, 2), LARGE);
        due(x.size(2, 0), 33);
    }
}
