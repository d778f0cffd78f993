/** Promises 47 to 59: each sentence on turns and carrying that names an edge, with a test of its own. */
public final class TurnEdgeTests extends Asking {

    public static void main(String[] args) {
        showRefused();
        fourPairs();
        shownAsTheyWere();
        hidden();
        findRefused();
        onePairAndFour();
        likeRowsOfPieces();
        rowsLikeInOnePair();
        aftersWithoutHoles();
        beforeAHoleAlone();
        sixteenHoles();
        turnedCodes();
        fitting();
        fitsOfLikePieces();
        applyRefused();
        appliedNowhere();
        nothingWithin();
        appliedUpToForty();
        fullestTree();
        lawsTold();
        keptInNoStep();
        keptToAnotherFirstForm();
        notByItself();
        lawsOfItsTelling();
        keptByHoles();
        waysBack();
        holeAloneGoesBack();
        sixtyTrees();
        sixtyTreesAreAll();
        moreThanFortyLeftOut();
        triedInEachWorld();
        triedHoles();
        mapRefused();
        mapsOfSlots();
        slotsBehindTheLast();
        mapsAnew();
        unmapped();
        carryRefused();
        carriedStands();
        carriedWithoutParts();
        carriedInAnotherOrder();
        carriedForty();
        firstLeft();
        end("the edges of turns and carrying hold");
    }

    private static void showRefused() {
        GrammarTools x = pairs();
        form(x, 1, 0, 20);
        tree(x, 0, 20);
        treeOf(x, 1, 11, 20);
        of(47, "UNKNOWN, also ahead of NOT");
        for (int tree : row(1, 12, -1, MAX, MIN)) {
            due(x.show(tree, 0), UNKNOWN);
            due(x.show(0, tree), UNKNOWN);
            due(x.show(11, tree), UNKNOWN);
        }
        of(47, "NOT: its TREES are of unlike TELLINGS");
        due(x.show(0, 11), NOT);
        due(x.show(11, 0), NOT);
        due(x.count(3), 0);
        of(47, "NOT: it and those SHOWN are");
        due(x.show(11, 11), 1);
        due(x.show(0, 0), NOT);
        due(x.show(0, 11), NOT);
        due(x.show(11, 0), NOT);
        due(x.show(11, 11), 2);
    }

    private static void fourPairs() {
        GrammarTools x = pairs();
        form(x, 1, 0, 20);
        tree(x, 0, 20);
        treeOf(x, 1, 1, 20);
        of(47, "4 at most, also of like ones");
        for (int many = 1; many <= 4; many++) {
            due(x.show(0, 0), many);
        }
        due(x.show(0, 0), FULL);
        due(x.count(3), 4);
        of(47, "NOT ahead of FULL, UNKNOWN ahead of both");
        due(x.show(1, 1), NOT);
        due(x.show(0, 1), NOT);
        due(x.show(1, 2), UNKNOWN);
        due(x.show(0, 2), UNKNOWN);
    }

    private static void shownAsTheyWere() {
        of(47, "the TREES may be changed later");
        GrammarTools x = lets();
        tree(x, 0, 6, 20, 20);
        tree(x, 1, 6, 21, 21);
        x.show(0, 1);
        due(x.rename(0, 0, 5), 1);
        tree(x, 1, 41);
        x.strike(0);
        due(x.find(0), 0);
        turnedTo(x, 0, 0, 6, 20, 20);
        turnedTo(x, 0, 1, 6, 21, 21);
    }

    private static void hidden() {
        GrammarTools x = pairs();
        of(48, "how many there were: 0, 4");
        due(x.hide(), 0);
        tree(x, 0, 20);
        for (int i = 0; i < 4; i++) {
            x.show(0, 0);
        }
        x.find(0);
        due(x.hide(), 4);
        due(x.hide(), 0);
        of(48, "no pairs are SHOWN; the TURN stays");
        due(x.count(3), 0);
        due(x.find(0), NOT);
        due(x.find(1), NOT);
        due(x.turned(0, 0, 0), 20);
        of(48, "the next pair may be of the other TELLING");
        form(x, 1, 0, 40);
        treeOf(x, 1, 1, 40);
        due(x.show(1, 1), 1);
        due(x.show(0, 0), NOT);
    }

    private static void findRefused() {
        GrammarTools x = pairs();
        of(49, "UNKNOWN, also ahead of NOT");
        for (int turn : row(-1, 6, MAX, MIN)) {
            due(x.find(turn), UNKNOWN);
        }
        of(49, "NOT: no pair is SHOWN");
        due(x.find(0), NOT);
        due(x.find(5), NOT);
        of(49, "A TURN (0 .. 5)");
        show(x, row(20), row(21));
        for (int turn : row(-1, 6, MAX, MIN)) {
            due(x.find(turn), UNKNOWN);
        }
        due(x.find(0), 0);
        due(x.find(5), 0);
        of(49, "no LAW, also in the place of one");
        x.law(5, true);
        due(x.find(5), 0);
        due(x.count(5), 0);
        due(x.law(5, true), 0);
        of(49, "where there is no TURN the one there stays, a LAW, too");
        show(x, row(20), row(22));
        due(x.find(5), NOT);
        turnedTo(x, 5, 1, 21);
        due(x.count(5), 1);
        due(x.find(3), NOT);
        due(x.turned(3, 0, 0), UNKNOWN);
    }

    private static void onePairAndFour() {
        GrammarTools x = pairs();
        of(49, "one pair: no HOLES");
        show(x, row(3, 20, 41, 42), row(2, 42, 20));
        due(x.find(0), 0);
        turnedTo(x, 0, 0, 3, 20, 41, 42);
        turnedTo(x, 0, 1, 2, 42, 20);
        of(49, "the same pair four times: none, too");
        for (int i = 0; i < 3; i++) {
            x.show(10, 11);
        }
        due(x.find(0), 0);
        of(49, "four pairs: a HOLE where the last one alone is another one");
        x.hide();
        for (int i = 0; i < 3; i++) {
            show(x, row(2, 20, 40), row(2, 20, 40));
        }
        show(x, row(2, 21, 40), row(2, 21, 40));
        due(x.find(0), 1);
        turnedTo(x, 0, 0, 2, 200, 40);
        turnedTo(x, 0, 1, 2, 200, 40);
    }

    private static void likeRowsOfPieces() {
        GrammarTools x = pairs();
        of(49, "a like row: the same HOLE");
        show(x, row(2, 20, 2, 20, 21), row(20));
        show(x, row(2, 22, 2, 22, 21), row(22));
        due(x.find(0), 1);
        turnedTo(x, 0, 0, 2, 200, 2, 200, 21);
        turnedTo(x, 0, 1, 200);
        of(49, "a row that is like in one pair alone is another one; HOLES as they come, from the left");
        x.hide();
        show(x, row(2, 20, 2, 20, 20), row(2, 20, 20));
        show(x, row(2, 22, 2, 23, 22), row(2, 23, 22));
        due(x.find(0), 2);
        turnedTo(x, 0, 0, 2, 200, 2, 201, 200);
        turnedTo(x, 0, 1, 2, 201, 200);
        of(49, "NODES of unlike FORMS, and whole parts: a HOLE for them");
        x.hide();
        show(x, row(2, 20, 40), row(2, 40, 20));
        show(x, row(2, 2, 20, 20, 40), row(2, 40, 2, 20, 20));
        due(x.find(0), 1);
        turnedTo(x, 0, 0, 2, 200, 40);
        turnedTo(x, 0, 1, 2, 40, 200);
        of(49, "just this row: the pairs in their order");
        x.hide();
        show(x, row(2, 20, 40), row(2, 21, 40));
        show(x, row(2, 21, 40), row(2, 20, 40));
        due(x.find(1), NOT);
    }

    private static void rowsLikeInOnePair() {
        of(49, "rows that are like in one of three pairs alone, or in all but one, are not like");
        for (int which = 0; which < 6; which++) {
            GrammarTools x = pairs();
            for (int pair = 0; pair < 3; pair++) {
                int one = 20 + 2 * pair;
                boolean like = pair == which % 3 == which < 3;
                int other = like ? one : one + 1;
                show(x, row(2, one, other), row(2, other, one));
            }
            due(x.find(0), 2);
            turnedTo(x, 0, 0, 2, 200, 201);
            turnedTo(x, 0, 1, 2, 201, 200);
        }
    }

    private static void aftersWithoutHoles() {
        GrammarTools x = pairs();
        of(49, "an AFTER without HOLES, where the BEFORE has one");
        show(x, row(2, 20, 40), row(40));
        show(x, row(2, 21, 40), row(40));
        due(x.find(0), 1);
        turnedTo(x, 0, 1, 40);
        of(49, "if they have none, there is no TURN");
        x.hide();
        show(x, row(2, 20, 40), row(40));
        show(x, row(2, 20, 40), row(41));
        due(x.find(0), NOT);
        of(49, "also where the BEFORES have a HOLE further out alone");
        x.hide();
        show(x, row(2, 20, 40), row(20));
        show(x, row(2, 2, 21, 21, 40), row(21));
        due(x.find(0), NOT);
        turnedTo(x, 0, 1, 40);
    }

    private static void beforeAHoleAlone() {
        GrammarTools x = pairs();
        of(49, "if the BEFORE is a HOLE alone, there is no TURN");
        show(x, row(20), row(2, 20, 20));
        show(x, row(40), row(2, 40, 40));
        due(x.find(0), NOT);
        of(49, "an AFTER may be so");
        x.hide();
        show(x, row(2, 20, 20), row(20));
        show(x, row(2, 40, 40), row(40));
        due(x.find(0), 1);
        turnedTo(x, 0, 1, 200);
        of(49, "a LEAF that is a HOLE in a NODE alone is none such");
        x.hide();
        show(x, row(20), row(20));
        show(x, row(21), row(21));
        due(x.find(0), 1);
        turnedTo(x, 0, 0, 200);
        due(x.fits(0, 10), 1);
    }

    /** 16 numbers from first on and a last one, as a tree of 17 leaves. */
    private static void seventeen(GrammarTools x, int tree, int first, int last) {
        int[] sixteen = new int[16];
        int[] four = new int[4];
        int[] five = new int[5];
        for (int i = 0; i < 16; i++) {
            sixteen[i] = first + i;
            four[i % 4] = first + i;
            five[i % 4] = first + i;
        }
        five[4] = last;
        turnOf(x, 0, four, five);
        tree(x, tree, sixteen);
        due(x.apply(0, tree, tree), 1);
        due(x.size(tree, 1), 17);
        x.hide();
    }

    private static void sixteenHoles() {
        GrammarTools x = new GrammarTools();
        form(x, 0, 0, 40, 40, 40, 40, 60);
        form(x, 0, 0, 40, 40, 40, 40);
        form(x, 0, 0, 40);
        of(49, "16 HOLES are not too many");
        seventeen(x, 0, 40, 99);
        seventeen(x, 1, 60, 99);
        tree(x, 2, 55);
        tree(x, 3, 75);
        x.show(0, 2);
        x.show(1, 3);
        due(x.find(1), 16);
        due(x.turned(1, 0, 0), 200);
        due(x.turned(1, 0, 15), 215);
        due(x.turned(1, 0, 16), 99);
        turnedTo(x, 1, 1, 215);
        due(x.fits(1, 0), 1);
        due(x.apply(1, 1, 4), 1);
        spelled(x, 4, 75);
        due(x.tried(1), 1);
        x.world(0, 15, 7);
        due(x.tried(1), 0);
        of(49, "or has more than 16 HOLES");
        seventeen(x, 1, 60, 98);
        x.show(0, 2);
        x.show(1, 3);
        due(x.find(1), NOT);
        due(x.turned(1, 0, 16), 99);
        of(49, "HOLES that stand twice are one");
        seventeen(x, 1, 60, 75);
        seventeen(x, 0, 40, 55);
        x.show(0, 2);
        x.show(1, 3);
        due(x.find(1), 16);
        due(x.turned(1, 0, 16), 215);
    }

    private static void turnedCodes() {
        GrammarTools x = pairs();
        show(x, row(2, 20, 40), row(20));
        x.find(0);
        of(50, "NONE: behind the last code, ahead of the first one");
        turnedTo(x, 0, 0, 2, 20, 40);
        turnedTo(x, 0, 1, 20);
        for (int i : row(-1, 3, 4, MAX, MIN)) {
            due(x.turned(0, 0, i), NONE);
            due(x.turned(0, 1, i), NONE);
        }
        of(50, "OUTSIDE, also where no such code is");
        for (int side : row(-1, 2, MAX, MIN)) {
            due(x.turned(0, side, 0), OUTSIDE);
            due(x.turned(0, side, 99), OUTSIDE);
        }
        of(50, "UNKNOWN, also ahead of OUTSIDE");
        for (int turn : row(1, 5, 6, -1, MAX, MIN)) {
            due(x.turned(turn, 0, 0), UNKNOWN);
            due(x.turned(turn, 2, 0), UNKNOWN);
        }
    }

    private static void fitting() {
        GrammarTools x = fortyInOneAnother();
        form(x, 1, 0, 20);
        form(x, 1, 0, 2, 60);
        treeOf(x, 1, 1, 2, 20);
        of(51, "at none");
        tree(x, 2, 20);
        due(x.fits(0, 2), 0);
        of(51, "at NODES within others, too: 39 of 40");
        due(x.fits(0, 0), 39);
        of(51, "0 of another TELLING");
        due(x.fits(0, 1), 0);
        of(51, "UNKNOWN");
        for (int turn : row(1, 6, -1, MAX, MIN)) {
            due(x.fits(turn, 0), UNKNOWN);
        }
        for (int tree : row(3, 12, -1, MAX, MIN)) {
            due(x.fits(0, tree), UNKNOWN);
        }
    }

    private static void fitsOfLikePieces() {
        GrammarTools x = pairs();
        show(x, row(3, 20, 40, 20), row(20));
        show(x, row(3, 21, 41, 21), row(21));
        x.find(0);
        turnedTo(x, 0, 0, 3, 200, 201, 200);
        of(51, "one HOLE for like ones");
        tree(x, 0, 3, 25, 45, 25);
        due(x.fits(0, 0), 1);
        tree(x, 0, 3, 25, 45, 26);
        due(x.fits(0, 0), 0);
        of(51, "two HOLES may stand for like ones");
        x.hide();
        show(x, row(2, 20, 21), row(20));
        show(x, row(2, 22, 23), row(22));
        x.find(0);
        tree(x, 0, 2, 25, 25);
        due(x.fits(0, 0), 1);
        of(51, "its BEFORE is so there: another NUMBER is not");
        turnOf(x, 0, row(2, 20, 40), row(20));
        tree(x, 0, 2, 20, 41);
        due(x.fits(0, 0), 0);
        tree(x, 0, 2, 2, 20, 40, 2, 20, 40);
        due(x.fits(0, 0), 2);
        of(51, "a HOLE for a LEAF does not stand for a NODE");
        x.hide();
        show(x, row(2, 20, 40), row(20));
        show(x, row(2, 21, 40), row(21));
        x.find(0);
        tree(x, 0, 2, 2, 20, 20, 40);
        due(x.fits(0, 0), 0);
    }

    private static void applyRefused() {
        GrammarTools x = chains();
        form(x, 1, 0, 20);
        treeOf(x, 1, 1, 20);
        of(52, "UNKNOWN (the TREE's number 0 .. 11, too), ahead of NOT");
        for (int tree : row(12, -1, MAX, MIN)) {
            due(x.apply(0, 0, tree), UNKNOWN);
            due(x.apply(0, 1, tree), UNKNOWN);
            due(x.apply(0, tree, 0), UNKNOWN);
        }
        due(x.apply(0, 2, 3), UNKNOWN);
        for (int turn : row(1, 6, -1, MAX, MIN)) {
            due(x.apply(turn, 0, 3), UNKNOWN);
            due(x.apply(turn, 1, 3), UNKNOWN);
        }
        of(52, "NOT: of another TELLING; TREE to is as it was");
        due(x.apply(0, 1, 3), NOT);
        due(x.size(3, 0), UNKNOWN);
        due(x.apply(0, 1, 0), NOT);
        spelled(x, 0, 2, 20);
        of(52, "TREE to may be of the other TELLING, or the last one");
        due(x.apply(0, 0, 1), 1);
        due(x.size(1, 3), 0);
        due(x.apply(0, 0, 11), 1);
        spelled(x, 11, 2, 2, 20);
    }

    private static void appliedNowhere() {
        GrammarTools x = chains();
        of(52, "at how many NODES: none, and the TREE as it is, without PINS");
        tree(x, 1, 20);
        x.pin(1, 0, 1);
        due(x.apply(0, 1, 2), 0);
        spelled(x, 2, 20);
        due(x.node(2, 0, 3), 0);
        due(x.node(1, 0, 3), 1);
        due(x.apply(0, 1, 1), 0);
        due(x.node(1, 0, 3), 0);
        of(52, "at all that are side by side");
        turnOf(x, 1, row(20), row(21));
        tree(x, 3, 3, 20, 3, 20, 3, 22, 20);
        due(x.apply(1, 3, 3), 3);
        spelled(x, 3, 3, 21, 3, 21, 3, 22, 21);
    }

    private static void nothingWithin() {
        GrammarTools x = pairs();
        of(52, "where it FITS, the AFTER is put in; nothing within that is looked at");
        show(x, row(2, 20, 40), row(2, 40, 20));
        show(x, row(2, 40, 20), row(2, 20, 40));
        x.find(0);
        tree(x, 0, 2, 2, 20, 40, 2, 21, 41);
        due(x.fits(0, 0), 3);
        due(x.apply(0, 0, 1), 1);
        spelled(x, 1, 2, 2, 21, 41, 2, 20, 40);
        of(52, "what HOLES stand for is put in as often as the AFTER has them");
        x.hide();
        show(x, row(2, 20, 40), row(2, 2, 20, 20, 20));
        show(x, row(2, 2, 21, 22, 40), row(2, 2, 2, 21, 22, 2, 21, 22, 2, 21, 22));
        due(x.find(1), 1);
        tree(x, 0, 2, 25, 40);
        due(x.apply(1, 0, 1), 1);
        spelled(x, 1, 2, 2, 25, 25, 25);
        of(52, "an AFTER that is a HOLE alone");
        x.hide();
        show(x, row(2, 20, 40), row(20));
        show(x, row(2, 2, 21, 22, 40), row(2, 21, 22));
        due(x.find(2), 1);
        tree(x, 0, 2, 2, 25, 40, 40);
        due(x.apply(2, 0, 1), 1);
        spelled(x, 1, 2, 25, 40);
        due(x.apply(2, 1, 1), 1);
        spelled(x, 1, 25);
        due(x.apply(2, 1, 1), 0);
    }

    private static void appliedUpToForty() {
        GrammarTools x = chains();
        of(52, "40 NODES are not too many");
        for (int n = 2; n < 39; n++) {
            x.apply(0, 0, 0);
        }
        due(x.size(0, 0), 39);
        due(x.apply(0, 0, 1), 1);
        due(x.size(1, 0), 40);
        of(52, "LARGE: more than 40 NODES; TREE to is as it was");
        due(x.apply(0, 1, 0), LARGE);
        due(x.size(0, 0), 39);
        due(x.apply(0, 1, 1), LARGE);
        due(x.size(1, 0), 40);
        due(x.apply(0, 1, 2), LARGE);
        due(x.size(2, 0), UNKNOWN);
        of(52, "at a TREE of 40 NODES, where none comes in addition");
        turnOf(x, 1, row(20), row(21));
        due(x.apply(1, 1, 1), 1);
        due(x.size(1, 0), 40);
        due(x.spell(1, 39), 21);
        of(52, "and where some go");
        x.hide();
        show(x, row(2, 2, 20), row(2, 20));
        show(x, row(2, 2, 2, 20), row(2, 2, 20));
        due(x.find(2), 1);
        due(x.apply(2, 1, 1), 1);
        due(x.size(1, 0), 39);
    }

    private static void fullestTree() {
        of(52, "40 NODES with five SLOTS each: 161 LEAVES");
        GrammarTools x = fives();
        fullest(x, 0);
        due(x.size(0, 1), 161);
        due(x.apply(0, 0, 1), LARGE);
        due(x.fits(0, 0), 1);
        of(49, "a TURN of it; a HOLE for its last LEAF");
        turnOf(x, 1, times(5, 20), row(20, 20, 20, 20, 21));
        due(x.apply(1, 0, 1), 1);
        x.hide();
        x.show(0, 0);
        x.show(1, 1);
        due(x.find(2), 1);
        due(x.turned(2, 0, 4), 200);
        due(x.turned(2, 1, 160), 20);
        due(x.turned(2, 1, 161), NONE);
        due(x.fits(2, 1), 1);
        due(x.apply(2, 1, 2), 1);
        due(x.like(1, 0, 2, 0), 1);
        of(54, "from it to the other one");
        x.hide();
        x.show(0, 1);
        x.find(3);
        due(x.kept(3), NONE);
        x.law(1, true);
        due(x.kept(3), 1);
        of(58, "it is carried");
        x.map(0, 0, 0, 4, 3, 2, 1);
        x.map(1, 1, 4, 3, 2, 1, 0);
        due(x.carry(1, 3), 40);
        due(x.spell(3, 0), 21);
        due(x.spell(3, 160), 20);
        due(x.size(3, 1), 161);
    }

    private static void lawsTold() {
        GrammarTools x = pairs();
        show(x, row(20), row(21));
        x.find(0);
        x.find(5);
        of(53, "what it was (1, 0)");
        due(x.law(0, false), 0);
        due(x.law(0, true), 0);
        due(x.law(0, true), 1);
        due(x.law(5, true), 0);
        due(x.count(5), 2);
        due(x.law(0, false), 1);
        due(x.count(5), 1);
        of(53, "UNKNOWN");
        for (int turn : row(1, 6, -1, MAX, MIN)) {
            due(x.law(turn, true), UNKNOWN);
            due(x.law(turn, false), UNKNOWN);
        }
        of(53, "with its TELLING it goes, and is none when it comes again");
        x.clear(0);
        due(x.law(5, true), UNKNOWN);
        form(x, 0, 0, 20);
        show(x, row(20), row(21));
        x.find(5);
        due(x.law(5, true), 0);
    }

    private static void keptInNoStep() {
        GrammarTools x = pairs();
        of(54, "0 steps, without LAWS, too");
        turnOf(x, 0, row(2, 20, 40), row(2, 20, 40));
        due(x.kept(0), 0);
        of(54, "NONE: it is not, without LAWS");
        turnOf(x, 1, row(2, 20, 40), row(2, 40, 20));
        due(x.kept(1), NONE);
        of(54, "UNKNOWN");
        for (int turn : row(2, 6, -1, MAX, MIN)) {
            due(x.kept(turn), UNKNOWN);
        }
        of(54, "one step, and none for a LAW that leads elsewhere");
        turnOf(x, 2, row(2, 20, 40), row(2, 40, 20));
        x.law(2, true);
        due(x.kept(1), 1);
        due(x.kept(0), 0);
        turnOf(x, 3, row(20), row(21));
        due(x.kept(3), NONE);
    }

    private static void keptToAnotherFirstForm() {
        of(54, "BEFORE and AFTER that are so but for the first FORM");
        GrammarTools x = new GrammarTools();
        form(x, 0, 0, 20);
        form(x, 0, 0, 1, 20);
        form(x, 0, 0, 2, 20);
        turnOf(x, 0, row(20), row(1, 20));
        due(x.kept(0), NONE);
        turnOf(x, 1, row(1, 20), row(2, 20));
        x.law(1, true);
        due(x.kept(0), NONE);
        turnOf(x, 2, row(20), row(2, 20));
        x.law(2, true);
        due(x.kept(0), 2);
    }

    private static void notByItself() {
        GrammarTools x = pairs();
        of(54, "not itself");
        turnOf(x, 0, row(20), row(21));
        x.law(0, true);
        due(x.kept(0), NONE);
        of(54, "but by one that is just so");
        x.find(5);
        x.law(5, true);
        due(x.kept(0), 1);
        due(x.kept(5), 1);
        of(54, "TURNS that are no LAWS do not lead on");
        x.law(5, false);
        due(x.kept(0), NONE);
        due(x.kept(5), 1);
    }

    private static void lawsOfItsTelling() {
        GrammarTools x = new GrammarTools();
        for (int v = 0; v < 2; v++) {
            form(x, v, 0, 20);
            treeOf(x, v, 0, 20);
            treeOf(x, v, 1, 21);
            x.hide();
            x.show(0, 1);
            x.find(v);
            x.find(v + 2);
        }
        of(54, "LAWS of its TELLING");
        x.law(0, true);
        due(x.kept(1), NONE);
        due(x.kept(3), NONE);
        due(x.kept(2), 1);
        x.law(1, true);
        due(x.kept(3), 1);
        due(x.kept(0), NONE);
    }

    private static void keptByHoles() {
        GrammarTools x = pairs();
        of(54, "HOLES as LEAVES of their own: a LAW's HOLE stands for them");
        x.hide();
        show(x, row(2, 20, 40), row(2, 40, 20));
        show(x, row(2, 40, 20), row(2, 20, 40));
        x.find(0);
        x.law(0, true);
        x.hide();
        show(x, row(2, 20, 2, 21, 40), row(2, 2, 40, 21, 20));
        show(x, row(2, 2, 22, 22, 2, 23, 41), row(2, 2, 41, 23, 2, 22, 22));
        due(x.find(1), 3);
        due(x.kept(1), 2);
        of(54, "a NAME of a LAW is not so at a HOLE");
        GrammarTools y = chains();
        x.law(0, false);
        turnOf(y, 1, row(20), row(2, 20));
        y.law(1, true);
        turnOf(y, 2, row(3, 20, 21), row(3, 2, 20, 21));
        due(y.kept(2), 1);
        y.hide();
        show(y, row(3, 20, 21), row(3, 2, 20, 21));
        show(y, row(3, 2, 22, 21), row(3, 2, 2, 22, 21));
        due(y.find(2), 1);
        due(y.kept(2), NONE);
        of(54, "like HOLES are LIKE");
        GrammarTools z = pairs();
        show(z, row(2, 20, 20), row(20));
        show(z, row(2, 40, 40), row(40));
        z.find(0);
        z.law(0, true);
        z.hide();
        show(z, row(2, 20, 2, 21, 21), row(2, 20, 21));
        show(z, row(2, 22, 2, 40, 40), row(2, 22, 40));
        show(z, row(2, 41, 2, 42, 42), row(2, 41, 42));
        due(z.find(1), 2);
        due(z.kept(1), 1);
        z.hide();
        show(z, row(2, 20, 2, 21, 22), row(2, 20, 21));
        show(z, row(2, 22, 2, 40, 41), row(2, 22, 40));
        due(z.find(1), 3);
        due(z.kept(1), SPENT);
    }

    private static void waysBack() {
        GrammarTools x = pairs();
        of(54, "from AFTER to BEFORE, too");
        turnOf(x, 0, row(20), row(2, 40, 41));
        x.law(0, true);
        turnOf(x, 1, row(2, 2, 40, 41, 42), row(2, 20, 42));
        due(x.kept(1), 1);
        of(54, "only if its AFTER has all HOLES of its BEFORE");
        x.hide();
        show(x, row(2, 20, 21), row(2, 20, 49));
        show(x, row(2, 22, 23), row(2, 22, 49));
        due(x.find(0), 2);
        x.law(0, true);
        turnOf(x, 1, row(2, 25, 49), row(2, 25, 26));
        due(x.kept(1), NONE);
        turnOf(x, 1, row(2, 25, 26), row(2, 25, 49));
        due(x.kept(1), 1);
        of(54, "it has them all: back, too");
        x.hide();
        show(x, row(2, 20, 21), row(3, 21, 20, 49));
        show(x, row(2, 22, 23), row(3, 23, 22, 49));
        due(x.find(0), 2);
        x.law(0, true);
        turnOf(x, 1, row(3, 25, 26, 49), row(2, 26, 25));
        due(x.kept(1), 1);
        of(54, "the fewest steps, there and back");
        turnOf(x, 1, row(2, 2, 20, 21, 3, 22, 23, 49), row(2, 3, 21, 20, 49, 2, 23, 22));
        due(x.kept(1), 2);
    }

    private static void holeAloneGoesBack() {
        of(54, "a side that is a HOLE alone is so at each NODE whose FORM is of SORT 0");
        GrammarTools x = new GrammarTools();
        form(x, 0, 0, 20);
        form(x, 0, 0, 2, 60);
        form(x, 0, 0, 3, 61);
        form(x, 0, 1, 20);
        show(x, row(2, 20), row(20));
        show(x, row(2, 2, 20), row(2, 20));
        due(x.find(0), 1);
        x.law(0, true);
        turnOf(x, 1, row(3, 20), row(2, 3, 20));
        due(x.kept(1), 1);
        turnOf(x, 1, row(3, 20), row(2, 2, 2, 3, 20));
        due(x.kept(1), 3);
        of(54, "and not where it is of another one: 39 trees in all");
        turnOf(x, 1, row(3, 20), row(21));
        due(x.kept(1), NONE);
        turnOf(x, 1, row(2, 2, 2, 3, 20), row(3, 20));
        due(x.kept(1), 3);
    }

    /** Tree 1 becomes word 2 and so on of n nodes with that name; turn 5 is from 2 nodes and name 0 to that. */
    private static int keptTo(GrammarTools x, int n, int name) {
        tree(x, 0, 2, 20);
        tree(x, 1, 2, name);
        for (int m = 2; m < n; m++) {
            x.apply(0, 1, 1);
        }
        x.hide();
        x.show(0, 1);
        x.find(5);
        return x.kept(5);
    }

    /** One node more by law 0, name 1 for name 0 by law 1. */
    private static GrammarTools growing() {
        GrammarTools x = chains();
        x.law(0, true);
        turnOf(x, 1, row(20), row(21));
        x.law(1, true);
        return x;
    }

    private static void sixtyTrees() {
        // they come so: 2 nodes and name 0; 3 and 0; 2 and 1; 4 and 0; 3 and 1; .. 32 and 0 is the 60th
        of(54, "60 of them at most, the first one too: the 60th");
        due(keptTo(growing(), 3, 20), 1);
        due(keptTo(growing(), 2, 21), 1);
        due(keptTo(growing(), 31, 20), 29);
        due(keptTo(growing(), 30, 21), 29);
        due(keptTo(growing(), 32, 20), 30);
        of(54, "SPENT, if a 61st would come ahead of the AFTER: not if the AFTER is the 61st");
        due(keptTo(growing(), 31, 21), 30);
        of(54, "SPENT, if a 61st would come ahead of the AFTER: it is the 62nd");
        due(keptTo(growing(), 33, 20), SPENT);
        due(keptTo(growing(), 32, 21), SPENT);
        due(keptTo(growing(), 40, 21), SPENT);
    }

    private static void sixtyTreesAreAll() {
        GrammarTools x = growing();
        form(x, 0, 0, 4, 60);
        int[] first = {3, 2, 20, 4, 4, 4, 4, 4, 4, 4, 25};
        of(54, "just 60 trees, and none is the AFTER: it is not KEPT");
        turnOf(x, 5, first, row(35));
        due(x.size(10, 0), 11);
        due(x.kept(5), NONE);
        of(54, "one tree more: SPENT");
        turnOf(x, 2, first, row(30));
        x.law(2, true);
        due(x.kept(5), SPENT);
        of(54, "trees that come again are not counted: each tree once");
        x.law(2, false);
        x.find(3);
        x.law(3, true);
        x.find(4);
        x.law(4, true);
        due(x.kept(5), SPENT);
        x.law(3, false);
        x.law(4, false);
        due(x.kept(5), NONE);
        x.hide();
        turnOf(x, 3, row(20), row(21));
        x.law(3, true);
        due(x.kept(5), NONE);
    }

    private static void moreThanFortyLeftOut() {
        of(54, "those of more than 40 NODES are left out");
        GrammarTools x = chains();
        x.law(0, true);
        due(keptTo(x, 40, 20), 38);
        due(keptTo(x, 2, 21), NONE);
        due(keptTo(x, 40, 21), NONE);
        of(54, "from a TREE of 40 NODES backwards");
        GrammarTools y = fortyInOneAnother();
        y.law(0, true);
        tree(y, 1, 2, 20);
        y.hide();
        y.show(0, 1);
        due(y.find(5), 0);
        due(y.kept(5), 38);
    }

    private static void triedInEachWorld() {
        GrammarTools x = pairs();
        of(55, "in each WORLD BEFORE and AFTER have one value");
        turnOf(x, 0, row(20), row(21));
        due(x.tried(0), 1);
        for (int w = 0; w < 4; w++) {
            x.world(w, 1, 5);
            due(x.tried(0), 0);
            x.world(w, 1, 0);
            due(x.tried(0), 1);
        }
        of(55, "values that wrap to one");
        x.mean(0, 2, 1);
        turnOf(x, 1, row(2, 20, 20), row(40));
        x.world(2, 0, MIN);
        due(x.tried(1), 1);
        x.world(2, 0, MAX);
        due(x.tried(1), 0);
        of(55, "it is no RUN: the value stays");
        due(x.value(), 0);
        tree(x, 0, 45);
        x.run(0, 0, 5);
        x.tried(1);
        due(x.value(), 5);
        of(55, "UNKNOWN");
        for (int turn : row(2, 6, -1, MAX, MIN)) {
            due(x.tried(turn), UNKNOWN);
        }
        of(55, "1000 FUEL each: 40 NODES take less");
        GrammarTools y = fortyInOneAnother();
        y.hide();
        y.show(0, 0);
        y.find(1);
        due(y.tried(1), 1);
    }

    private static void triedHoles() {
        GrammarTools x = pairs();
        of(55, "HOLE k that of NAME k there");
        x.hide();
        show(x, row(2, 30, 31), row(31));
        show(x, row(2, 32, 33), row(33));
        due(x.find(0), 2);
        due(x.tried(0), 1);
        x.world(3, 1, 9);
        due(x.tried(0), 0);
        x.mean(0, 2, 1);
        due(x.tried(0), 1);
        x.world(3, 0, 1);
        due(x.tried(0), 0);
        of(55, "a HOLE is no NAME for LET: 0, and nothing is worked");
        x.mean(0, 3, 4);
        x.hide();
        show(x, row(3, 30, 45, 46), row(40));
        show(x, row(3, 31, 45, 46), row(40));
        due(x.find(1), 1);
        due(x.tried(1), 1);
        of(55, "a HOLE in a LET of NAME k is that of the WORLD");
        x.hide();
        show(x, row(3, 20, 45, 30), row(30));
        show(x, row(3, 20, 45, 31), row(31));
        due(x.find(2), 1);
        turnedTo(x, 2, 0, 3, 20, 45, 200);
        x.world(1, 0, 77);
        due(x.tried(2), 1);
    }

    /** Telling 0: 0 of name, number, sorts 0 and 1, name; 1 of word 1; telling 1: some forms for them. */
    private static GrammarTools toMap() {
        GrammarTools x = new GrammarTools();
        form(x, 0, 0, 20, 40, 60, 61, 20);
        form(x, 0, 1, 1);
        form(x, 1, 0, 20, 40, 60, 60, 20);
        form(x, 1, 0, 2);
        form(x, 1, 1, 20, 3, 20);
        form(x, 1, 1, 40);
        form(x, 1, 1, 65, 4);
        return x;
    }

    private static void mapRefused() {
        GrammarTools x = toMap();
        of(56, "UNKNOWN (FORMS), also ahead of OUTSIDE");
        for (int f : row(-1, 2, MAX, MIN)) {
            due(x.map(f, 1, 0, 0, 0, 0, 0), UNKNOWN);
            due(x.map(f, 0, 9, 9, 9, 9, 9), UNKNOWN);
        }
        for (int g : row(-1, 5, MAX, MIN)) {
            due(x.map(0, g, 0, 1, 2, 3, 4), UNKNOWN);
        }
        of(56, "OUTSIDE: no such SLOT of f");
        for (int s : row(-1, 5, MAX, MIN)) {
            due(x.map(0, 3, s, 0, 0, 0, 0), OUTSIDE);
            due(x.map(0, 0, s, 1, 2, 3, 4), OUTSIDE);
            due(x.map(0, 0, 0, 1, 2, 3, s), OUTSIDE);
        }
        due(x.map(1, 3, 0, 0, 0, 0, 0), OUTSIDE);
        of(56, "each of f at most once");
        due(x.map(0, 2, 0, 0, 1, 2, 3), OUTSIDE);
        due(x.map(0, 0, 0, 1, 2, 2, 4), OUTSIDE);
        due(x.map(0, 0, 0, 1, 2, 3, 0), OUTSIDE);
        of(56, "a NAME for a NAME, a NUMBER for a NUMBER, a SORT for a SORT");
        due(x.map(0, 0, 1, 0, 2, 3, 4), OUTSIDE);
        due(x.map(0, 0, 0, 2, 1, 3, 4), OUTSIDE);
        due(x.map(0, 0, 0, 1, 4, 3, 2), OUTSIDE);
        due(x.map(0, 3, 0, 0, 0, 0, 0), OUTSIDE);
        due(x.map(0, 3, 2, 0, 0, 0, 0), OUTSIDE);
        due(x.map(0, 4, 0, 0, 0, 0, 0), OUTSIDE);
        due(x.map(0, 4, 1, 0, 0, 0, 0), OUTSIDE);
        due(x.count(6), 0);
    }

    private static void mapsOfSlots() {
        GrammarTools x = toMap();
        of(56, "as many as g has SLOTS are looked at: five");
        due(x.map(0, 0, 4, 1, 3, 2, 0), 1);
        of(56, "none");
        due(x.map(0, 1, 9, -9, MAX, MIN, 9), 1);
        due(x.map(1, 1, 9, -9, MAX, MIN, 9), 2);
        of(56, "one, two");
        due(x.map(0, 3, 1, -1, -1, -1, -1), 2);
        due(x.map(0, 2, 0, 4, 4, 4, 4), 2);
        of(56, "any SORT for a SORT");
        due(x.map(0, 4, 2, 2, 2, 2, 2), 2);
        due(x.map(0, 4, 3, 0, 0, 0, 0), 2);
    }

    private static void slotsBehindTheLast() {
        of(56, "OUTSIDE: no SLOT of f, though the next FORM has one there");
        GrammarTools x = new GrammarTools();
        form(x, 0, 0, 20, 20, 20, 20, 20);
        form(x, 0, 0, 20);
        form(x, 1, 0, 20);
        due(x.map(0, 0, 4, 0, 0, 0, 0), 1);
        due(x.map(0, 0, 5, 0, 0, 0, 0), OUTSIDE);
        due(x.map(1, 0, 1, 0, 0, 0, 0), OUTSIDE);
        due(x.map(1, 0, -1, 0, 0, 0, 0), OUTSIDE);
        of(56, "OUTSIDE: no SLOT of f, though an earlier FORM had one there");
        x.clear(0);
        form(x, 0, 0, 20);
        due(x.map(0, 0, 1, 0, 0, 0, 0), OUTSIDE);
        due(x.map(0, 0, 0, 0, 0, 0, 0), 1);
    }

    private static void mapsAnew() {
        GrammarTools x = new GrammarTools();
        form(x, 0, 0, 20, 20);
        form(x, 1, 0, 20, 20);
        form(x, 1, 0, 5);
        tree(x, 0, 21, 22);
        of(56, "anew in the place of an older one");
        due(x.map(0, 0, 0, 1, 0, 0, 0), 1);
        x.carry(0, 1);
        spelled(x, 1, 21, 22);
        due(x.map(0, 0, 1, 0, 0, 0, 0), 1);
        x.carry(0, 1);
        spelled(x, 1, 22, 21);
        due(x.map(0, 1, 0, 0, 0, 0, 0), 1);
        x.carry(0, 1);
        spelled(x, 1, 5);
        of(56, "one that is refused leaves the older one");
        due(x.map(0, 0, 0, 0, 0, 0, 0), OUTSIDE);
        due(x.map(0, 0, 1, 2, 0, 0, 0), OUTSIDE);
        due(x.map(0, 2, 1, 0, 0, 0, 0), UNKNOWN);
        x.carry(0, 1);
        spelled(x, 1, 5);
    }

    private static void unmapped() {
        GrammarTools x = toMap();
        of(57, "1 if it had one, 0");
        due(x.unmap(0), 0);
        x.map(0, 0, 0, 1, 2, 3, 4);
        x.map(1, 1, 0, 0, 0, 0, 0);
        due(x.unmap(0), 1);
        due(x.unmap(0), 0);
        due(x.count(6), 1);
        due(x.unmap(1), 1);
        due(x.count(6), 0);
        of(57, "UNKNOWN");
        for (int f : row(-1, 2, 13, MAX, MIN)) {
            due(x.unmap(f), UNKNOWN);
        }
        of(57, "the last of 14 FORMS");
        GrammarTools y = new GrammarTools();
        for (int f = 0; f < 14; f++) {
            form(y, 0, 0, 1);
            form(y, 1, 0, 1);
        }
        due(y.map(13, 13, 0, 0, 0, 0, 0), 1);
        due(y.unmap(14), UNKNOWN);
        due(y.unmap(13), 1);
    }

    private static void carryRefused() {
        GrammarTools x = sums();
        tellSums(x, 1);
        for (int f = 0; f < 6; f++) {
            x.map(f, f, 0, 1, 0, 0, 0);
        }
        tree(x, 0, 41);
        treeOf(x, 1, 1, 41);
        of(58, "UNKNOWN (the TREE's number 0 .. 11, too), ahead of NOT");
        for (int tree : row(-1, 12, MAX, MIN)) {
            due(x.carry(0, tree), UNKNOWN);
            due(x.carry(1, tree), UNKNOWN);
            due(x.carry(tree, 0), UNKNOWN);
        }
        due(x.carry(2, 3), UNKNOWN);
        of(58, "NOT: it is of TELLING 1; TREE to is as it was");
        due(x.carry(1, 3), NOT);
        due(x.size(3, 0), UNKNOWN);
        due(x.carry(1, 0), NOT);
        due(x.size(0, 3), 0);
        of(58, "NOT: some FORM of it has no MAP");
        x.unmap(2);
        due(x.carry(0, 3), NOT);
        x.map(2, 2, 0, 0, 0, 0, 0);
        x.unmap(4);
        due(x.carry(0, 3), 2);
        of(58, "the last TREE, and itself");
        due(x.carry(0, 11), 2);
        due(x.size(11, 3), 1);
        due(x.carry(0, 0), 2);
        due(x.size(0, 3), 1);
        due(x.carry(0, 0), NOT);
    }

    private static void carriedStands() {
        GrammarTools x = new GrammarTools();
        form(x, 0, 0, 1, 61);
        form(x, 0, 1, 20);
        form(x, 0, 1, 40);
        form(x, 1, 0, 1, 62);
        form(x, 1, 2, 20);
        form(x, 1, 3, 40);
        form(x, 1, 2, 40);
        form(x, 1, 5, 1, 62);
        x.map(0, 0, 0, 0, 0, 0, 0);
        x.map(1, 1, 0, 0, 0, 0, 0);
        x.map(2, 2, 0, 0, 0, 0, 0);
        tree(x, 0, 1, 20);
        tree(x, 1, 1, 41);
        of(58, "it stands, if each NODE's FORM in a SORT's place is of that SORT");
        due(x.carry(0, 2), 2);
        of(58, "NOT: it does not stand; TREE to is as it was");
        due(x.carry(1, 2), NOT);
        spelled(x, 2, 1, 20);
        due(x.carry(1, 3), NOT);
        due(x.size(3, 0), UNKNOWN);
        x.map(2, 3, 0, 0, 0, 0, 0);
        due(x.carry(1, 2), 2);
        spelled(x, 2, 1, 41);
        of(58, "the first of SORT 0");
        x.map(0, 4, 0, 0, 0, 0, 0);
        due(x.carry(0, 2), NOT);
        due(x.carry(1, 2), NOT);
        spelled(x, 2, 1, 41);
    }

    private static void carriedWithoutParts() {
        GrammarTools x = pairs();
        form(x, 1, 0, 9);
        form(x, 1, 0, 60);
        form(x, 1, 0, 8, 60);
        of(58, "a FORM without SLOTS: all that is in it is left out");
        for (int f = 0; f < 4; f++) {
            x.map(f, 0, 0, 0, 0, 0, 0);
        }
        tree(x, 0, 2, 20, 2, 21, 22);
        due(x.carry(0, 1), 1);
        spelled(x, 1, 9);
        of(58, "whose FORMS all have MAPS: what is left out, too");
        x.unmap(0);
        due(x.carry(0, 1), NOT);
        due(x.left(0), 1);
        x.map(0, 0, 0, 0, 0, 0, 0);
        of(58, "one SLOT of two: the second one");
        due(x.map(2, 1, 1, 0, 0, 0, 0), 4);
        due(x.carry(0, 1), 3);
        spelled(x, 1, 8, 8, 9);
    }

    private static void carriedInAnotherOrder() {
        of(58, "parts of unlike sizes in another order, LEAVES among them");
        GrammarTools x = new GrammarTools();
        form(x, 0, 0, 20);
        form(x, 0, 0, 60, 1, 40, 60);
        form(x, 1, 0, 20);
        form(x, 1, 0, 60, 60, 40);
        x.map(0, 0, 0, 0, 0, 0, 0);
        due(x.map(1, 1, 2, 0, 1, 0, 0), 2);
        tree(x, 0, 20, 1, 45, 21, 1, 46, 22);
        due(x.size(0, 0), 5);
        due(x.carry(0, 1), 5);
        spelled(x, 1, 22, 21, 46, 20, 45);
        int[] ups = {NONE, 0, 1, 1, 0};
        int[] within = {5, 3, 1, 1, 1};
        for (int n = 0; n < 5; n++) {
            due(x.node(1, n, 1), ups[n]);
            due(x.node(1, n, 2), within[n]);
        }
        due(x.slot(1, 0, 0), 1001);
        due(x.slot(1, 0, 1), 1004);
        due(x.slot(1, 0, 2), 45);
        due(x.slot(1, 1, 1), 1003);
        due(x.slot(1, 1, 2), 46);
        due(x.leaf(1, 2, 1), 1);
        due(x.leaf(1, 2, 2), 2);
        due(x.leaf(1, 4, 1), 0);
    }

    private static void carriedForty() {
        of(58, "40 NODES");
        GrammarTools x = fortyInOneAnother();
        form(x, 1, 0, 20);
        form(x, 1, 0, 1, 60, 2);
        x.map(0, 0, 0, 0, 0, 0, 0);
        x.map(1, 1, 0, 0, 0, 0, 0);
        due(x.left(0), NONE);
        due(x.carry(0, 1), 40);
        due(x.size(1, 2), 79);
        due(x.size(1, 3), 1);
        due(x.spell(1, 39), 20);
        due(x.spell(1, 78), 2);
    }

    private static void firstLeft() {
        GrammarTools x = sums();
        tellSums(x, 1);
        treeOf(x, 1, 1, 41);
        tree(x, 0, 41, 0, 20);
        of(59, "the first NODE whose FORM has no MAP; NONE");
        due(x.left(0), 0);
        x.map(1, 1, 0, 1, 0, 0, 0);
        due(x.left(0), 1);
        x.map(0, 0, 0, 0, 0, 0, 0);
        due(x.left(0), 2);
        x.map(2, 2, 0, 0, 0, 0, 0);
        due(x.left(0), 3);
        x.map(3, 3, 0, 0, 0, 0, 0);
        due(x.left(0), NONE);
        of(59, "NOT: it is of TELLING 1");
        due(x.left(1), NOT);
        of(59, "UNKNOWN");
        for (int tree : row(2, 12, -1, MAX, MIN)) {
            due(x.left(tree), UNKNOWN);
        }
        of(59, "the last of 40 NODES");
        GrammarTools y = fortyInOneAnother();
        form(y, 1, 0, 5, 60);
        y.map(1, 0, 0, 0, 0, 0, 0);
        due(y.left(0), 39);
    }
}
