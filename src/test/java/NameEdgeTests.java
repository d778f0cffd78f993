/** Promises 39 to 46: each sentence on names, kinds and meaning that names an edge, with a test of its own. */
public final class NameEdgeTests extends Asking {

    public static void main(String[] args) {
        boundRefused();
        reachOfTells();
        rightBehindTheScope();
        whatComesBehind();
        innermostReach();
        lastAheadElseFirstBehind();
        usesCounted();
        smallerTreeThanBefore();
        fullestTree();
        renameRefused();
        renamedToEdges();
        caught();
        renamedWithoutUses();
        kindRefused();
        kindsTold();
        alikeGoesOn();
        blamedRefused();
        blamedLetGoInOrder();
        othersAreNotBlamed();
        blamedUses();
        blamedInTheLastNode();
        worlds();
        runRefused();
        fuelOfOneNode();
        fuelOfFortyNodes();
        actsWithoutSlots();
        actsWithTooFewSlots();
        actsOfOneSlot();
        letAndIf();
        notNeeded();
        wrappedValues();
        runsOfEitherTelling();
        latestValue();
        end("the edges of names, kinds and meaning hold");
    }

    private static void boundRefused() {
        GrammarTools x = lets();
        form(x, 0, 0, 9);
        tree(x, 0, 4, 20, 41, 20);
        of(39, "NOT: it is no USE, but a TELL or a NUMBER");
        due(x.bound(0, 0), NOT);
        due(x.bound(0, 1), NOT);
        due(x.bound(0, 2), 0);
        of(39, "UNKNOWN");
        for (int l : row(-1, 3, MAX, MIN)) {
            due(x.bound(0, l), UNKNOWN);
            due(x.uses(0, l), UNKNOWN);
        }
        due(x.bound(1, 0), UNKNOWN);
        due(x.bound(12, 0), UNKNOWN);
        due(x.bound(-1, 0), UNKNOWN);
        of(39, "a TREE without LEAVES");
        tree(x, 1, 9);
        due(x.bound(1, 0), UNKNOWN);
        of(39, "NONE: of that NAME there is no TELL");
        tree(x, 2, 4, 20, 21, 22);
        due(x.bound(2, 1), NONE);
        due(x.bound(2, 2), NONE);
        of(39, "a USE (0, at first): without TELLS none is BOUND");
        GrammarTools y = sums();
        tree(y, 0, 4, 20, 5, 20);
        due(y.bound(0, 0), NONE);
        due(y.bound(0, 1), NONE);
    }

    private static void reachOfTells() {
        GrammarTools x = lets();
        of(39, "the innermost NODE that it is in (its own NODE, too) whose FORM is a SCOPE");
        tree(x, 0, 2, 4, 20, 20, 20, 20);
        due(x.bound(0, 1), 0);
        due(x.bound(0, 2), 0);
        due(x.bound(0, 3), NONE);
        of(39, "else the whole TREE");
        x.scope(0, 1, false);
        due(x.bound(0, 3), 0);
        of(39, "a SCOPE further out ends it, too");
        x.scope(0, 2, true);
        due(x.bound(0, 3), 0);
        tree(x, 1, 6, 25, 4, 21, 2, 4, 20, 20, 20, 20, 20);
        // leaves: 25; 21; 20 told, 20, 20; 20 in the scope; 20 behind it
        due(x.bound(1, 5), 2);
        due(x.bound(1, 6), NONE);
    }

    private static void rightBehindTheScope() {
        of(39, "a LEAF right ahead of the SCOPE and right behind it is not in it");
        GrammarTools x = new GrammarTools();
        form(x, 0, 0, 1, 20, 61, 20);
        form(x, 0, 1, 20);
        form(x, 0, 1, 2, 20, 61, 20);
        x.scope(0, 1, true);
        x.scope(0, 2, true);
        x.name(0, 1, 0, 2);
        x.name(0, 2, 0, 2);
        tree(x, 0, 1, 25, 25, 25);
        due(x.bound(0, 0), NONE);
        due(x.uses(0, 1), 0);
        due(x.bound(0, 2), NONE);
        tree(x, 0, 1, 25, 2, 25, 26, 25, 25);
        due(x.bound(0, 0), NONE);
        due(x.bound(0, 3), 1);
        due(x.bound(0, 4), NONE);
    }

    private static void whatComesBehind() {
        GrammarTools x = lets();
        of(39, "2: seen all through; 1: by what comes behind it");
        tree(x, 0, 2, 20, 6, 20, 20);
        due(x.bound(0, 0), 1);
        due(x.bound(0, 2), 1);
        x.name(0, 3, 0, 1);
        due(x.bound(0, 0), NONE);
        due(x.bound(0, 2), 1);
        of(39, "only what comes behind it there, in one NODE, too");
        GrammarTools y = new GrammarTools();
        form(y, 0, 0, 20, 20, 20);
        y.scope(0, 0, true);
        y.name(0, 0, 1, 1);
        tree(y, 0, 20, 20, 20);
        due(y.bound(0, 0), NONE);
        due(y.bound(0, 2), 1);
        y.name(0, 0, 1, 2);
        due(y.bound(0, 0), 1);
        due(y.uses(0, 1), 2);
    }

    private static void innermostReach() {
        of(39, "of several that whose NODE of REACH is innermost, though it is behind the USE");
        GrammarTools x = lets();
        tree(x, 0, 2, 6, 20, 41, 4, 21, 20, 6, 20, 42);
        due(x.bound(0, 3), 4);
        x.name(0, 3, 0, 1);
        due(x.bound(0, 3), 0);
        of(39, "also where an outer TELL is nearer");
        GrammarTools y = new GrammarTools();
        form(y, 0, 0, 20);
        form(y, 0, 0, 1, 20, 60, 60);
        form(y, 0, 0, 2, 20, 61);
        form(y, 0, 1, 3, 60);
        y.scope(0, 1, true);
        y.name(0, 1, 0, 1);
        y.name(0, 2, 0, 1);
        tree(y, 0, 1, 20, 2, 21, 3, 21, 20);
        due(y.bound(0, 2), 1);
        due(y.bound(0, 3), 0);
        tree(y, 0, 1, 20, 1, 20, 20, 20, 20);
        due(y.bound(0, 2), 1);
        due(y.bound(0, 3), 1);
        due(y.bound(0, 4), 0);
    }

    private static void lastAheadElseFirstBehind() {
        GrammarTools x = lets();
        of(39, "of like ones the last ahead of the USE");
        tree(x, 0, 2, 6, 20, 41, 2, 6, 20, 42, 2, 20, 6, 20, 43);
        due(x.bound(0, 4), 2);
        of(39, "else the first behind it");
        tree(x, 1, 2, 20, 2, 6, 20, 41, 6, 20, 42);
        due(x.bound(1, 0), 1);
        of(39, "a TELL of its NAME: those of other NAMES are passed over");
        tree(x, 2, 2, 20, 2, 6, 21, 41, 6, 20, 42);
        due(x.bound(2, 0), 3);
        tree(x, 3, 2, 6, 20, 41, 2, 6, 21, 42, 20);
        due(x.bound(3, 4), 0);
    }

    private static void usesCounted() {
        GrammarTools x = lets();
        of(40, "none, and as many as there may be");
        tree(x, 0, 6, 20, 41);
        due(x.uses(0, 0), 0);
        tree(x, 0, 6, 20, 2, 20, 2, 20, 2, 20, 2, 20, 2, 20, 2, 20, 20);
        due(x.size(0, 1), 8);
        due(x.uses(0, 0), 7);
        of(40, "NOT: it is no TELL, but a USE or a NUMBER");
        due(x.uses(0, 1), NOT);
        tree(x, 0, 6, 20, 41);
        due(x.uses(0, 1), NOT);
        of(40, "UNKNOWN");
        due(x.uses(0, 2), UNKNOWN);
        due(x.uses(0, -1), UNKNOWN);
        due(x.uses(1, 0), UNKNOWN);
        due(x.uses(12, 0), UNKNOWN);
        of(40, "those that are BOUND to it, not those of its NAME");
        tree(x, 0, 4, 20, 20, 4, 20, 20, 20);
        due(x.uses(0, 0), 1);
        due(x.uses(0, 2), 2);
    }

    private static void smallerTreeThanBefore() {
        of(40, "nothing of a larger TREE, asked ahead of it");
        GrammarTools x = lets();
        tree(x, 0, 2, 20, 2, 6, 20, 2, 20, 20, 6, 20, 20);
        tree(x, 1, 6, 20, 20);
        tree(x, 2, 2, 20, 20);
        for (int l = 0; l < 6; l++) {
            x.bound(0, l);
        }
        due(x.uses(0, 1), 3);
        due(x.uses(1, 0), 1);
        due(x.uses(0, 1), 3);
        due(x.bound(2, 0), NONE);
        due(x.uses(0, 1), 3);
        tree(x, 3, 2, 20, 2, 20, 6, 20, 41);
        due(x.bound(3, 0), 2);
        tree(x, 3, 2, 20, 20);
        due(x.bound(3, 0), NONE);
        due(x.rename(1, 0, 7), 1);
        spelled(x, 1, 6, 27, 27);
        text(x, 0, 20, 1);
        due(x.hint(0, 0, 0), 1);
        text(x, 0, 6, 20, 20);
        due(x.uses(0, 1), 3);
        due(x.hint(0, 0, 0), 0);
    }

    private static void fullestTree() {
        of(39, "40 NODES with five SLOTS each: 161 LEAVES");
        GrammarTools x = fives();
        fullest(x, 0);
        due(x.bound(0, 160), NONE);
        due(x.bound(0, 161), UNKNOWN);
        x.name(0, 0, 3, 1);
        x.name(0, 0, 3, 2);
        // leaves 7, 11, .. 159 are tells, the first five are of the last node
        due(x.bound(0, 160), 159);
        due(x.bound(0, 159), NOT);
        due(x.bound(0, 0), 7);
        x.name(0, 0, 3, 0);
        x.name(0, 1, 0, 1);
        due(x.uses(0, 0), 160);
        of(41, "a TELL with 160 USES");
        due(x.rename(0, 0, 15), 1);
        due(x.leaf(0, 160, 0), 35);
        due(x.spell(0, 0), 35);
        of(43, "160 USES that are ALIKE one TELL");
        x.rule(0, 1, 0, 1);
        due(x.kind(0, 160, true), 1);
        due(x.blamed(0, NONE), 0);
        x.rule(0, 0, 4, 2);
        due(x.blamed(0, NONE), 3);
        int[] blamed = {3800, 3900, 10000 + 8};
        for (int i = 0; i < 3; i++) {
            due(x.blamed(0, i), blamed[i]);
        }
        for (int i = 0; i < 5; i++) {
            x.rule(0, 0, 4, 2);
            x.rule(0, 1, 0, 1);
        }
        due(x.blamed(0, NONE), 3);
        int[] later = {3805, 3905, 10000 + 8};
        for (int i = 0; i < 3; i++) {
            due(x.blamed(0, i), later[i]);
        }
        due(x.kind(0, 160, true), 9);
    }

    private static void renameRefused() {
        GrammarTools x = lets();
        tree(x, 0, 4, 20, 41, 20);
        of(41, "0 .. 15");
        for (int to : row(-1, 16, 20, MAX, MIN)) {
            due(x.rename(0, 0, to), OUTSIDE);
        }
        of(41, "OUTSIDE ahead of NOT");
        due(x.rename(0, 1, 16), OUTSIDE);
        due(x.rename(0, 2, -1), OUTSIDE);
        of(41, "NOT: it is no TELL, but a NUMBER or a USE");
        due(x.rename(0, 1, 0), NOT);
        due(x.rename(0, 2, 0), NOT);
        of(41, "UNKNOWN, also ahead of OUTSIDE and NOT");
        for (int l : row(-1, 3, MAX, MIN)) {
            due(x.rename(0, l, 0), UNKNOWN);
            due(x.rename(0, l, 16), UNKNOWN);
        }
        due(x.rename(1, 0, 0), UNKNOWN);
        due(x.rename(12, 0, 16), UNKNOWN);
        spelled(x, 0, 4, 20, 41, 20);
    }

    private static void renamedToEdges() {
        GrammarTools x = lets();
        tree(x, 0, 4, 25, 41, 2, 25, 26);
        x.pin(0, 1, 2);
        of(41, "to NAME 0, to NAME 15");
        due(x.rename(0, 0, 0), 1);
        spelled(x, 0, 4, 20, 41, 2, 20, 26);
        due(x.rename(0, 0, 15), 1);
        spelled(x, 0, 4, 35, 41, 2, 35, 26);
        of(41, "to the NAME that it has");
        due(x.rename(0, 0, 15), 1);
        spelled(x, 0, 4, 35, 41, 2, 35, 26);
        of(41, "a USE that is BOUND to none stays so");
        due(x.bound(0, 3), NONE);
        of(41, "all else is as it was");
        due(x.node(0, 1, 3), 2);
        due(x.size(0, 0), 5);
    }

    private static void caught() {
        GrammarTools x = lets();
        of(41, "-200 less the LEAF: the first one of the TREE");
        int[] ahead = {2, 21, 6, 20, 41};
        tree(x, 0, ahead);
        due(x.rename(0, 1, 1), -200);
        spelled(x, 0, ahead);
        due(x.bound(0, 0), NONE);
        of(41, "of several the first USE");
        int[] several = {6, 20, 2, 20, 2, 21, 21};
        tree(x, 1, several);
        due(x.rename(1, 0, 1), -202);
        spelled(x, 1, several);
        of(41, "a USE that goes along, and another TELL takes it");
        int[] taken = {4, 20, 41, 4, 21, 42, 20};
        tree(x, 2, taken);
        due(x.rename(2, 0, 1), -204);
        spelled(x, 2, taken);
        of(41, "a USE of another TELL that this one takes");
        int[] takes = {4, 20, 41, 4, 21, 42, 20};
        tree(x, 3, takes);
        due(x.rename(3, 2, 0), -204);
        spelled(x, 3, takes);
        of(41, "a like NAME that takes no USE does no harm");
        tree(x, 4, 4, 20, 41, 4, 21, 42, 43);
        due(x.rename(4, 0, 1), 1);
        spelled(x, 4, 4, 21, 41, 4, 21, 42, 43);
        of(41, "an inner TELL that all USES of the NAME are BOUND to");
        tree(x, 5, 4, 20, 41, 4, 21, 42, 21);
        due(x.rename(5, 0, 1), 1);
        due(x.bound(5, 4), 2);
    }

    private static void renamedWithoutUses() {
        GrammarTools x = lets();
        of(41, "a TELL without USES: it alone");
        tree(x, 0, 4, 20, 41, 4, 20, 42, 20);
        due(x.uses(0, 0), 0);
        due(x.rename(0, 0, 7), 1);
        spelled(x, 0, 4, 27, 41, 4, 20, 42, 20);
    }

    private static void kindRefused() {
        GrammarTools x = lets();
        form(x, 0, 0, 9);
        tree(x, 0, 4, 20, 41, 20);
        of(42, "UNKNOWN: 3 NODES, 3 LEAVES");
        for (int k : row(-1, 3, MAX, MIN)) {
            due(x.kind(0, k, false), UNKNOWN);
            due(x.kind(0, k, true), UNKNOWN);
        }
        of(42, "UNKNOWN: more NODES than LEAVES");
        tree(x, 1, 9);
        due(x.kind(1, 0, false), NONE);
        due(x.kind(1, 0, true), UNKNOWN);
        of(42, "UNKNOWN: more LEAVES than NODES");
        GrammarTools y = new GrammarTools();
        form(y, 0, 0, 20, 20);
        tree(y, 0, 20, 20);
        due(y.kind(0, 1, true), NONE);
        due(y.kind(0, 1, false), UNKNOWN);
        due(y.kind(1, 0, false), UNKNOWN);
        due(y.kind(12, 0, true), UNKNOWN);
        due(y.kind(-1, 0, true), UNKNOWN);
    }

    private static void kindsTold() {
        of(42, "KINDS 0 to 5");
        GrammarTools x = new GrammarTools();
        form(x, 0, 0, 20, 40);
        tree(x, 0, 20, 41);
        for (int k = 0; k < 6; k++) {
            x.rule(0, 0, NONE, k);
            due(x.kind(0, 0, false), k);
            due(x.kind(0, 0, true), NONE);
            x.rule(0, 0, 1, 5 - k);
            due(x.kind(0, 1, true), 5 - k);
            x.unrule(0, 0);
        }
        of(42, "NONE");
        due(x.kind(0, 0, false), NONE);
        of(42, "9: it is of two, of all six, too");
        for (int k = 0; k < 6; k++) {
            x.rule(0, 0, 0, k);
            due(x.kind(0, 0, true), k == 0 ? 0 : 9);
        }
        of(42, "another PIECE is not of two by that");
        due(x.kind(0, 1, true), NONE);
        due(x.kind(0, 0, false), NONE);
        of(42, "the same KIND twice is one");
        x.unrule(0, 0);
        x.rule(0, 0, 0, 4);
        x.rule(0, 0, 0, 4);
        due(x.kind(0, 0, true), 4);
        due(x.blamed(0, NONE), 0);
    }

    private static void alikeGoesOn() {
        of(42, "ALIKE goes on from one to the next, either way");
        GrammarTools x = new GrammarTools();
        form(x, 0, 0, 20, 20, 20, 20, 60);
        form(x, 0, 0, 1);
        tree(x, 0, 20, 21, 22, 23, 1);
        for (int i = 0; i < 4; i++) {
            x.rule(0, 0, i, 11 + i);
        }
        for (int l = 0; l < 4; l++) {
            due(x.kind(0, l, true), NONE);
        }
        x.rule(0, 1, NONE, 3);
        for (int l = 0; l < 4; l++) {
            due(x.kind(0, l, true), 3);
        }
        due(x.kind(0, 1, false), 3);
        due(x.kind(0, 0, false), NONE);
        of(42, "the NODE ALIKE a SLOT, in a circle");
        x.rule(0, 0, NONE, 10);
        x.rule(0, 0, 4, 10);
        due(x.kind(0, 0, false), 3);
        due(x.blamed(0, NONE), 0);
        of(42, "two KINDS far from each other");
        x.unrule(0, 0);
        x.rule(0, 0, NONE, 2);
        x.rule(0, 0, NONE, 10);
        x.rule(0, 0, 1, 10);
        x.rule(0, 0, 1, 14);
        due(x.kind(0, 2, true), NONE);
        due(x.kind(0, 0, true), 9);
        due(x.kind(0, 1, false), 9);
        due(x.blamed(0, NONE), 5);
    }

    private static void blamedRefused() {
        GrammarTools x = new GrammarTools();
        form(x, 0, 0, 20);
        tree(x, 0, 20);
        of(43, "none without a FAULT");
        due(x.blamed(0, NONE), 0);
        due(x.blamed(0, 0), NONE);
        x.rule(0, 0, 0, 1);
        due(x.blamed(0, NONE), 0);
        due(x.blamed(0, 0), NONE);
        of(43, "NONE: there is none such");
        x.rule(0, 0, 0, 2);
        due(x.blamed(0, NONE), 2);
        due(x.blamed(0, 0), 0);
        due(x.blamed(0, 1), 1);
        for (int i : row(2, 3, -2, MAX, MIN)) {
            due(x.blamed(0, i), NONE);
        }
        of(43, "UNKNOWN");
        for (int tree : row(1, 12, -1, MAX, MIN)) {
            due(x.blamed(tree, NONE), UNKNOWN);
            due(x.blamed(tree, 0), UNKNOWN);
        }
    }

    private static void blamedLetGoInOrder() {
        GrammarTools x = new GrammarTools();
        form(x, 0, 0, 60, 60);
        form(x, 0, 0, 20);
        tree(x, 0, 20, 21);
        of(43, "it is let go, if the others that are left are a FAULT without it");
        x.rule(0, 1, 0, 0);
        x.rule(0, 1, 0, 1);
        x.rule(0, 1, 0, 2);
        // the last two of the last node are left
        due(x.blamed(0, NONE), 2);
        due(x.blamed(0, 0), 201);
        due(x.blamed(0, 1), 202);
        of(43, "those of NODE 0 first, though they tell of later ones");
        x.unrule(0, 1);
        x.rule(0, 0, 0, 1);
        x.rule(0, 0, 0, 2);
        x.rule(0, 1, NONE, 1);
        due(x.blamed(0, NONE), 2);
        due(x.blamed(0, 0), 1);
        due(x.blamed(0, 1), 100);
        of(43, "those that are needed stay, those between them go");
        x.unrule(0, 0);
        x.unrule(0, 1);
        x.rule(0, 0, 0, 3);
        x.rule(0, 0, 1, 3);
        x.rule(0, 0, 0, 11);
        x.rule(0, 1, 0, 5);
        x.rule(0, 0, 1, 4);
        // left: slots alike, and the kind of either: of the two of kind 3 the later one
        due(x.blamed(0, NONE), 2);
        due(x.blamed(0, 0), 1);
        due(x.blamed(0, 1), 3);
    }

    private static void othersAreNotBlamed() {
        of(43, "what is HELD behind them, of the same PIECE, is let go");
        GrammarTools x = new GrammarTools();
        form(x, 0, 0, 20, 20);
        tree(x, 0, 20, 21);
        x.rule(0, 0, 0, 1);
        x.rule(0, 0, 0, 2);
        x.rule(0, 0, 0, 11);
        x.rule(0, 0, NONE, 10);
        due(x.kind(0, 1, true), 9);
        due(x.blamed(0, NONE), 2);
        due(x.blamed(0, 0), 0);
        due(x.blamed(0, 1), 1);
        of(43, "what is HELD ahead of them, of the same PIECE, is let go");
        x.unrule(0, 0);
        x.rule(0, 0, NONE, 10);
        x.rule(0, 0, 0, 11);
        x.rule(0, 0, 0, 1);
        x.rule(0, 0, 1, 2);
        due(x.blamed(0, NONE), 3);
        int[] blamed = {1, 2, 3};
        for (int i = 0; i < 3; i++) {
            due(x.blamed(0, i), blamed[i]);
        }
        of(43, "of two ways to a FAULT the one that is HELD later");
        x.unrule(0, 0);
        x.rule(0, 0, 0, 1);
        x.rule(0, 0, 0, 2);
        x.rule(0, 0, 1, 3);
        x.rule(0, 0, 1, 4);
        due(x.blamed(0, NONE), 2);
        due(x.blamed(0, 0), 2);
        due(x.blamed(0, 1), 3);
    }

    private static void blamedUses() {
        GrammarTools x = lets();
        of(43, "10000 and the LEAF of a USE; the first LEAF");
        tree(x, 0, 2, 20, 6, 20, 40);
        x.rule(0, 0, 0, 1);
        x.rule(0, 3, 0, 2);
        due(x.blamed(0, NONE), 3);
        int[] blamed = {100, 200, 10000};
        for (int i = 0; i < 3; i++) {
            due(x.blamed(0, i), blamed[i]);
        }
        of(43, "a USE that is not BOUND is not HELD");
        x.name(0, 3, 0, 1);
        due(x.blamed(0, NONE), 0);
        due(x.kind(0, 0, true), 1);
        due(x.kind(0, 1, true), 2);
        of(43, "USES come behind all RULES");
        tree(x, 1, 4, 20, 41, 2, 20, 20);
        x.rule(0, 1, 0, 3);
        due(x.blamed(1, NONE), 3);
        int[] last = {0, 400, 10003};
        for (int i = 0; i < 3; i++) {
            due(x.blamed(1, i), last[i]);
        }
    }

    private static void blamedInTheLastNode() {
        of(43, "100 times its NODE and the number of the RULE: the last one of the last of 40");
        GrammarTools x = fortyInOneAnother();
        for (int i = 0; i < 6; i++) {
            x.rule(0, 0, NONE, i == 5 ? 1 : 0);
            x.rule(0, 1, 0, 5);
        }
        x.unrule(0, 1);
        due(x.blamed(0, NONE), 2);
        due(x.blamed(0, 0), 3904);
        due(x.blamed(0, 1), 3905);
        of(43, "as many as may be HELD: six in each of 40");
        for (int i = 0; i < 6; i++) {
            x.rule(0, 1, NONE, 10);
        }
        x.unrule(0, 0);
        for (int i = 0; i < 5; i++) {
            x.rule(0, 0, NONE, 10);
        }
        x.rule(0, 0, 0, 2);
        due(x.kind(0, 0, false), 2);
        due(x.kind(0, 0, true), 2);
        due(x.blamed(0, NONE), 0);
        x.unrule(0, 1);
        for (int i = 0; i < 5; i++) {
            x.rule(0, 1, NONE, 10);
        }
        x.rule(0, 1, NONE, 3);
        due(x.blamed(0, NONE), 4);
        int[] blamed = {3804, 3805, 3904, 3905};
        for (int i = 0; i < 4; i++) {
            due(x.blamed(0, i), blamed[i]);
        }
    }

    private static void worlds() {
        GrammarTools x = new GrammarTools();
        of(44, "WORLDS 0 to 3, NAMES 0 to 15");
        due(x.world(0, 0, 5), 0);
        due(x.world(3, 15, 6), 0);
        due(x.world(0, 0, 0), 5);
        due(x.world(3, 15, 0), 6);
        for (int w : row(-1, 4, MAX, MIN)) {
            due(x.world(w, 0, 1), UNKNOWN);
            due(x.world(w, 16, 1), UNKNOWN);
        }
        for (int name : row(-1, 16, 20, MAX, MIN)) {
            due(x.world(0, name, 1), OUTSIDE);
        }
        of(44, "any value, also as a refusal is");
        int was = 0;
        for (int v : row(MIN, MAX, UNKNOWN, OUTSIDE, NOT, FULL, SPENT, LARGE, NONE, 0)) {
            due(x.world(1, 7, v), was);
            was = v;
        }
        of(44, "each place by itself");
        x.world(2, 3, 9);
        due(x.world(2, 2, 0), 0);
        due(x.world(2, 4, 0), 0);
        due(x.world(1, 3, 0), 0);
        due(x.world(3, 3, 0), 0);
    }

    private static void runRefused() {
        GrammarTools x = pairs();
        tree(x, 0, 20);
        of(45, "FUEL 1 .. 1000");
        due(x.run(0, 0, 1), 1);
        due(x.run(0, 0, 1000), 1);
        for (int fuel : row(0, 1001, -1, MAX, MIN)) {
            due(x.run(0, 0, fuel), OUTSIDE);
        }
        of(45, "UNKNOWN, also ahead of OUTSIDE");
        for (int w : row(-1, 4, MAX, MIN)) {
            due(x.run(0, w, 1), UNKNOWN);
            due(x.run(0, w, 0), UNKNOWN);
        }
        for (int tree : row(1, 12, -1, MAX, MIN)) {
            due(x.run(tree, 0, 1), UNKNOWN);
            due(x.run(tree, 0, 1001), UNKNOWN);
        }
    }

    private static void fuelOfOneNode() {
        of(45, "one FUEL for each NODE; LEAVES take none");
        GrammarTools x = new GrammarTools();
        form(x, 0, 0, 20, 40, 20, 40, 20);
        x.mean(0, 0, 1);
        tree(x, 0, 20, 41, 20, 42, 20);
        due(x.run(0, 0, 1), 1);
        due(x.value(), 3);
        of(45, "without FUEL it ends: SPENT");
        GrammarTools y = pairs();
        y.mean(0, 2, 1);
        tree(y, 0, 2, 41, 2, 42, 43);
        for (int fuel = 1; fuel <= 6; fuel++) {
            due(y.run(0, 0, fuel), fuel < 5 ? SPENT : 5);
        }
    }

    private static void fuelOfFortyNodes() {
        of(45, "40 NODES");
        GrammarTools x = fortyInOneAnother();
        x.world(0, 0, 77);
        due(x.run(0, 0, 39), SPENT);
        due(x.value(), 0);
        due(x.run(0, 0, 40), 40);
        due(x.value(), 77);
    }

    private static void worked(GrammarTools x, int tree, int fuel, int value) {
        due(x.run(tree, 0, 1000), fuel);
        due(x.value(), value);
    }

    private static void actsWithoutSlots() {
        of(45, "the sum (0 without), the product (1 without), 0 for the others, 7, how many SLOTS");
        GrammarTools x = new GrammarTools();
        form(x, 0, 0, 1);
        tree(x, 0, 1);
        int[] values = {0, 0, 1, 0, 0, 0, 7, 0};
        for (int act = 0; act < 8; act++) {
            x.mean(0, 0, act);
            worked(x, 0, 1, values[act]);
        }
    }

    private static void actsWithTooFewSlots() {
        of(45, "three for 4 and 5: else 0, and nothing is worked");
        GrammarTools x = new GrammarTools();
        form(x, 0, 0, 40);
        form(x, 0, 0, 2, 20, 60);
        form(x, 0, 0, 3, 60);
        form(x, 0, 0, 4, 60, 60);
        for (int f = 1; f < 4; f++) {
            for (int act = 4; act <= 5; act++) {
                x.mean(0, f, act);
                tree(x, 0, f == 1 ? row(2, 20, 45) : f == 2 ? row(3, 45) : row(4, 45, 46));
                worked(x, 0, 1, 0);
            }
        }
        of(45, "or with no NAME first for 4, but a NUMBER or a NODE");
        form(x, 0, 0, 5, 40, 60, 60);
        form(x, 0, 0, 6, 60, 60, 60);
        x.mean(0, 4, 4);
        x.mean(0, 5, 4);
        tree(x, 0, 5, 45, 46, 47);
        worked(x, 0, 1, 0);
        tree(x, 0, 6, 45, 46, 47);
        worked(x, 0, 1, 0);
    }

    private static void actsOfOneSlot() {
        of(45, "one SLOT: that of its first SLOT, the sum, the product, the first less all the others");
        GrammarTools x = new GrammarTools();
        form(x, 0, 0, 40);
        form(x, 0, 0, 2, 60);
        tree(x, 0, 2, 47);
        int[] values = {7, 7, 7, 7, 0, 0, 7, 1};
        for (int act = 0; act < 8; act++) {
            x.mean(0, 1, act);
            worked(x, 0, act < 4 ? 2 : 1, values[act]);
        }
        of(45, "five SLOTS");
        GrammarTools y = new GrammarTools();
        form(y, 0, 0, 40, 40, 40, 40, 40);
        tree(y, 0, 50, 41, 42, 43, 44);
        int[] five = {10, 20, 240, 0, 0, 42 - 40, 7, 5};
        for (int act = 0; act < 8; act++) {
            y.mean(0, 0, act);
            worked(y, 0, 1, five[act]);
        }
        tree(y, 0, 40, 41, 42, 43, 44);
        y.mean(0, 0, 5);
        worked(y, 0, 1, 1);
        y.mean(0, 0, 3);
        worked(y, 0, 1, -10);
    }

    private static void letAndIf() {
        GrammarTools x = new GrammarTools();
        form(x, 0, 0, 20);
        form(x, 0, 0, 40);
        form(x, 0, 0, 2, 20, 60, 60);
        form(x, 0, 0, 3, 60, 60);
        x.mean(0, 2, 4);
        x.mean(0, 3, 1);
        x.world(0, 0, 1000);
        x.world(0, 1, 500);
        of(45, "of a NAME: by the innermost LET, else by the WORLD");
        tree(x, 0, 2, 20, 45, 3, 20, 21);
        worked(x, 0, 5, 505);
        tree(x, 0, 2, 20, 45, 2, 20, 46, 20);
        worked(x, 0, 5, 6);
        of(45, "that NAME's in the third one, and not in the second one");
        tree(x, 0, 2, 20, 20, 20);
        worked(x, 0, 3, 1000);
        tree(x, 0, 2, 20, 45, 2, 20, 3, 20, 20, 20);
        worked(x, 0, 7, 10);
        of(45, "nor behind it");
        tree(x, 0, 3, 2, 20, 45, 20, 20);
        worked(x, 0, 5, 1005);
        tree(x, 0, 2, 20, 45, 3, 2, 20, 46, 20, 20);
        worked(x, 0, 7, 11);
        of(45, "a value of 0 by a LET is one");
        tree(x, 0, 2, 20, 40, 20);
        worked(x, 0, 3, 0);
    }

    private static void notNeeded() {
        GrammarTools x = new GrammarTools();
        form(x, 0, 0, 20);
        form(x, 0, 0, 40);
        form(x, 0, 0, 3, 60, 60);
        form(x, 0, 0, 4, 60, 60, 60);
        form(x, 0, 0, 5, 20, 60, 60);
        x.mean(0, 3, 5);
        x.mean(0, 4, 5);
        x.mean(0, 2, 1);
        of(45, "those that are not needed are not worked");
        tree(x, 0, 4, 40, 45, 3, 46, 47);
        due(x.run(0, 0, 2), SPENT);
        worked(x, 0, 3, 5);
        due(x.run(0, 0, 3), 3);
        tree(x, 0, 4, 41, 3, 46, 47, 45);
        due(x.run(0, 0, 3), 3);
        worked(x, 0, 3, 5);
        of(45, "IF by a NAME: 0, else");
        tree(x, 0, 5, 20, 45, 46);
        worked(x, 0, 2, 5);
        x.world(0, 0, MIN);
        worked(x, 0, 2, 6);
        of(45, "7 and how many SLOTS work nothing in it");
        x.mean(0, 4, 6);
        worked(x, 0, 1, 7);
        x.mean(0, 4, 7);
        worked(x, 0, 1, 3);
        of(45, "that of its first SLOT alone");
        x.mean(0, 2, 0);
        tree(x, 0, 3, 45, 3, 46, 47);
        worked(x, 0, 2, 5);
        x.mean(0, 4, 0);
        tree(x, 0, 5, 20, 45, 46);
        worked(x, 0, 1, MIN);
    }

    private static void wrappedValues() {
        GrammarTools x = new GrammarTools();
        form(x, 0, 0, 20, 20, 20);
        tree(x, 0, 20, 21, 22);
        of(45, "values are ints that wrap: a sum");
        x.world(0, 0, MAX);
        x.world(0, 1, 1);
        x.mean(0, 0, 1);
        worked(x, 0, 1, MIN);
        x.world(0, 0, MIN);
        x.world(0, 1, -1);
        worked(x, 0, 1, MAX);
        of(45, "the first less all the others");
        x.mean(0, 0, 3);
        x.world(0, 1, 1);
        worked(x, 0, 1, MAX);
        x.world(0, 0, 0);
        x.world(0, 1, MIN);
        worked(x, 0, 1, MIN);
        of(45, "a product");
        x.mean(0, 0, 2);
        x.world(0, 0, 65536);
        x.world(0, 1, 65536);
        x.world(0, 2, 3);
        worked(x, 0, 1, 0);
        x.world(0, 0, MIN);
        x.world(0, 1, -1);
        x.world(0, 2, 1);
        worked(x, 0, 1, MIN);
        x.world(0, 0, 65537);
        x.world(0, 1, 65537);
        worked(x, 0, 1, 131073);
    }

    private static void runsOfEitherTelling() {
        of(45, "each FORM has the MEANING of its own TELLING");
        GrammarTools x = sums();
        tellSums(x, 1);
        x.mean(0, 1, 1);
        x.mean(1, 1, 2);
        tree(x, 0, 45, 0, 46);
        treeOf(x, 1, 1, 45, 0, 46);
        worked(x, 0, 4, 11);
        worked(x, 1, 4, 30);
        worked(x, 0, 4, 11);
    }

    private static void latestValue() {
        GrammarTools x = pairs();
        of(46, "0 ahead of all RUNS");
        due(x.value(), 0);
        of(46, "the latest RUN that was not SPENT");
        x.mean(0, 2, 1);
        tree(x, 0, 45);
        tree(x, 1, 2, 46, 47);
        x.run(0, 0, 1);
        due(x.value(), 5);
        due(x.run(1, 0, 2), SPENT);
        due(x.value(), 5);
        x.run(1, 0, 3);
        due(x.value(), 13);
        of(46, "a RUN that is refused is none");
        x.run(0, 4, 1);
        x.run(0, 0, 0);
        x.run(2, 0, 1);
        due(x.value(), 13);
        of(46, "also when the TREE is not there any more");
        x.strike(1);
        x.clear(0);
        due(x.value(), 13);
        of(46, "a value may be as a refusal is");
        form(x, 0, 0, 20);
        tree(x, 0, 20);
        x.world(3, 0, UNKNOWN);
        due(x.run(0, 3, 1000), 1);
        due(x.value(), UNKNOWN);
    }
}
