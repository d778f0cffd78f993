/** Promises 60 to 65: each sentence on the teacher and on sheets that names an edge, with a test of its own. */
public final class SheetEdgeTests extends Asking {
    /** What the document tells of sheets. */
    private static final int MISSING = -11, UNLIKE = -12, NO_PLACE = -13, BELOW = -14, NO_CODE = -15;

    public static void main(String[] args) {
        hintRefused();
        firstHintOfAll();
        hintOfUses();
        hintOfKinds();
        hintLarge();
        forgeRefused();
        forgedSizes();
        forgedAnew();
        setRefused();
        lowestBits();
        getRefused();
        copyRefusedInOrder();
        copiedEdges();
        copiedNothing();
        copiedOverItself();
        takeRefusedInOrder();
        takenSizes();
        takenCodes();
        end("the edges of the teacher and of sheets hold");
    }

    private static void hinted(GrammarTools x, int t, int what, int where) {
        due(x.hint(0, t, 0), what);
        due(x.hint(0, t, 1), where);
    }

    private static void hintRefused() {
        GrammarTools x = sums();
        of(60, "OUTSIDE");
        for (int what : row(-1, 2, MAX, MIN)) {
            due(x.hint(0, 0, what), OUTSIDE);
        }
        of(60, "UNKNOWN, also ahead of OUTSIDE");
        for (int v : row(-1, 2, MAX, MIN)) {
            due(x.hint(v, 0, 0), UNKNOWN);
            due(x.hint(v, 0, 2), UNKNOWN);
        }
        for (int t : row(-1, 8, MAX, MIN)) {
            due(x.hint(0, t, 0), UNKNOWN);
            due(x.hint(0, t, 2), UNKNOWN);
        }
    }

    private static void firstHintOfAll() {
        GrammarTools x = lets();
        of(60, "1 it does not read: an empty TEXT");
        hinted(x, 0, 1, NONE);
        of(60, "1 it does not read: no FORMS");
        due(x.hint(1, 0, 0), 1);
        due(x.hint(1, 0, 1), NONE);
        of(60, "2 it reads in two or more ways");
        form(x, 0, 0, 60, 60);
        text(x, 0, 41, 41, 41);
        hinted(x, 0, 2, NONE);
        text(x, 0, times(16, 41));
        hinted(x, 0, 2, NONE);
        of(60, "2 goes ahead of 3 and 4");
        text(x, 0, 20, 20, 20);
        x.rule(0, 0, NONE, 1);
        x.rule(0, 0, NONE, 2);
        hinted(x, 0, 2, NONE);
        of(60, "3 goes ahead of 4");
        text(x, 0, 20, 20);
        hinted(x, 0, 3, 0);
        x.name(0, 0, 0, 1);
        hinted(x, 0, 4, 200);
        of(60, "0 all is well");
        x.unrule(0, 0);
        hinted(x, 0, 0, NONE);
        of(60, "it leaves TREES and the TEXT as they were");
        due(x.count(2), 0);
        cells(x, 0, 20, 20);
    }

    private static void hintOfUses() {
        GrammarTools x = lets();
        of(60, "3 a USE of THE FIRST READING is not BOUND: where, the first such LEAF");
        text(x, 0, 4, 20, 41, 2, 20, 2, 21, 22);
        hinted(x, 0, 3, 3);
        of(60, "TELLS and NUMBERS are no USES");
        text(x, 0, 4, 20, 41, 42);
        hinted(x, 0, 0, NONE);
    }

    private static void hintOfKinds() {
        GrammarTools x = lets();
        of(60, "4 its KINDS are a FAULT: where, the first BLAMED, a USE, too");
        x.rule(0, 3, 0, 1);
        x.rule(0, 0, 0, 2);
        text(x, 0, 6, 20, 20);
        hinted(x, 0, 4, 0);
        GrammarTools y = new GrammarTools();
        form(y, 0, 0, 20, 20);
        y.name(0, 0, 0, 1);
        y.rule(0, 0, 0, 1);
        y.rule(0, 0, 1, 1);
        text(y, 0, 20, 20);
        hinted(y, 0, 0, NONE);
        y.rule(0, 0, 1, 3);
        hinted(y, 0, 4, 1);
    }

    private static void hintLarge() {
        GrammarTools x = deepNumbers();
        // a number is 4 nodes, a name 2
        of(60, "40 NODES are not too many");
        text(x, 0, times(10, 40));
        hinted(x, 0, 0, NONE);
        due(x.read(0, 0, 0), 40);
        of(60, "LARGE: it has one READING, of more than 40 NODES, whatever is asked");
        x.cell(0, 20);
        hinted(x, 0, LARGE, LARGE);
        of(60, "OUTSIDE ahead of LARGE");
        due(x.hint(0, 0, 2), OUTSIDE);
        of(60, "1, not LARGE, where it has none");
        x.cell(0, 0);
        hinted(x, 0, 1, NONE);
        of(60, "2, not LARGE, where it has two");
        form(x, 0, 3, 40);
        text(x, 0, times(16, 40));
        hinted(x, 0, 2, NONE);
        due(x.read(0, 0, 1), LARGE);
    }

    private static void forgeRefused() {
        GrammarTools x = new GrammarTools();
        of(61, "UNKNOWN, also ahead of OUTSIDE and of a size below 0");
        for (int s : row(-1, 4, MAX, MIN)) {
            due(x.forge(s, 0, 1), UNKNOWN);
            due(x.forge(s, 4, 41), UNKNOWN);
            due(x.forge(s, 0, -1), UNKNOWN);
        }
        of(61, "OUTSIDE: the form, also ahead of a size below 0");
        for (int form : row(-1, 4, MAX, MIN)) {
            due(x.forge(0, form, 1), OUTSIDE);
            due(x.forge(0, form, -1), OUTSIDE);
        }
        of(61, "OUTSIDE: n above 40");
        for (int n : row(41, 42, MAX)) {
            due(x.forge(0, 0, n), OUTSIDE);
        }
        of(61, "-14 a size below 0");
        for (int n : row(-1, -2, MIN)) {
            due(x.forge(0, 0, n), BELOW);
        }
        due(x.count(7), 0);
        due(x.get(0, 0), MISSING);
    }

    private static void forgedSizes() {
        GrammarTools x = new GrammarTools();
        of(61, "a SHEET of 0 CELLS is not missing, and has no place");
        due(x.forge(0, 0, 0), 0);
        due(x.count(7), 1);
        due(x.get(0, 0), NO_PLACE);
        due(x.set(0, 0, 1), NO_PLACE);
        of(61, "a SHEET of 40 CELLS, all 0");
        due(x.forge(3, 3, 40), 40);
        for (int i = 0; i < 40; i++) {
            due(x.get(3, i), 0);
        }
        due(x.get(3, 40), NO_PLACE);
    }

    private static void forgedAnew() {
        GrammarTools x = new GrammarTools();
        x.forge(0, 2, 40);
        for (int i = 0; i < 40; i++) {
            x.set(0, i, 1000 + i);
        }
        of(61, "one that is refused leaves the SHEET as it was");
        due(x.forge(0, 4, 3), OUTSIDE);
        due(x.forge(0, 0, 41), OUTSIDE);
        due(x.forge(0, 0, -1), BELOW);
        due(x.get(0, 39), 1039);
        of(61, "anew: a form of its own, all 0");
        due(x.forge(0, 0, 3), 3);
        due(x.get(0, 2), 0);
        due(x.get(0, 3), NO_PLACE);
        due(x.set(0, 2, 200), -56);
        due(x.count(7), 1);
        due(x.forge(0, 2, 40), 40);
        due(x.get(0, 39), 0);
    }

    private static void setRefused() {
        GrammarTools x = new GrammarTools();
        of(62, "-11: it is missing, also where there is no such place");
        due(x.set(0, 0, 1), MISSING);
        due(x.set(3, -1, 1), MISSING);
        of(62, "-13: a place that it has not");
        x.forge(0, 0, 3);
        due(x.set(0, 0, 5), 5);
        due(x.set(0, 2, 6), 6);
        for (int i : row(-1, 3, 40, MAX, MIN)) {
            due(x.set(0, i, 1), NO_PLACE);
        }
        of(62, "UNKNOWN");
        for (int s : row(-1, 4, MAX, MIN)) {
            due(x.set(s, 0, 1), UNKNOWN);
            due(x.set(s, -1, 1), UNKNOWN);
        }
        due(x.get(0, 0), 5);
        due(x.get(0, 1), 0);
        due(x.get(0, 2), 6);
    }

    private static void lowestBits() {
        GrammarTools x = new GrammarTools();
        of(62, "0 bytes: the lowest bits");
        int[] given = {0, 127, 128, 255, 256, -1, -128, -129, MAX, MIN};
        int[] bytes = {0, 127, -128, -1, 0, -1, -128, 127, -1, 0};
        x.forge(0, 0, 1);
        for (int i = 0; i < given.length; i++) {
            due(x.set(0, 0, given[i]), bytes[i]);
            due(x.get(0, 0), bytes[i]);
        }
        of(62, "1 shorts");
        int[] wider = {0, 32767, 32768, 65535, 65536, -1, -32768, -32769, MAX, MIN};
        int[] shorts = {0, 32767, -32768, -1, 0, -1, -32768, 32767, -1, 0};
        x.forge(1, 1, 1);
        for (int i = 0; i < wider.length; i++) {
            due(x.set(1, 0, wider[i]), shorts[i]);
            due(x.get(1, 0), shorts[i]);
        }
        of(62, "2 ints: any value, as a finding is, too");
        x.forge(2, 2, 1);
        for (int v : row(0, MAX, MIN, -1, MISSING, NO_PLACE, UNKNOWN)) {
            due(x.set(2, 0, v), v);
            due(x.get(2, 0), v);
        }
        of(62, "3 chars: none below 0");
        int[] chars = {0, 32767, 32768, 65535, 0, 65535, 32768, 32767, 65535, 0};
        x.forge(3, 3, 1);
        for (int i = 0; i < wider.length; i++) {
            due(x.set(3, 0, wider[i]), chars[i]);
            due(x.get(3, 0), chars[i]);
        }
    }

    private static void getRefused() {
        GrammarTools x = new GrammarTools();
        of(63, "-11: it is missing, also where there is no such place");
        for (int s = 0; s < 4; s++) {
            due(x.get(s, 0), MISSING);
            due(x.get(s, -1), MISSING);
        }
        of(63, "-13: a place that it has not");
        x.forge(1, 2, 2);
        for (int i : row(-1, 2, 40, MAX, MIN)) {
            due(x.get(1, i), NO_PLACE);
        }
        of(63, "UNKNOWN");
        for (int s : row(-1, 4, MAX, MIN)) {
            due(x.get(s, 0), UNKNOWN);
        }
    }

    private static void copyRefusedInOrder() {
        GrammarTools x = new GrammarTools();
        x.forge(0, 0, 3);
        x.forge(1, 1, 3);
        x.forge(2, 0, 3);
        of(64, "UNKNOWN ahead of all");
        for (int s : row(-1, 4, MAX, MIN)) {
            due(x.copy(s, 0, 3, 0, 1), UNKNOWN);
            due(x.copy(3, 0, s, 0, -1), UNKNOWN);
        }
        of(64, "-11 ahead of -12 and -13");
        due(x.copy(0, 0, 3, 0, 1), MISSING);
        due(x.copy(3, 0, 0, 0, 1), MISSING);
        due(x.copy(3, 0, 3, 0, 1), MISSING);
        due(x.copy(1, -1, 3, 9, -1), MISSING);
        due(x.copy(3, 0, 0, 0, 0), MISSING);
        of(64, "-12 ahead of -13");
        due(x.copy(0, 0, 1, 0, 1), UNLIKE);
        due(x.copy(1, -1, 2, 9, -1), UNLIKE);
        due(x.copy(1, 0, 0, 0, 0), UNLIKE);
        of(64, "-13 (also n below 0)");
        due(x.copy(0, 0, 2, 0, -1), NO_PLACE);
        due(x.copy(0, 2, 2, 2, -1), NO_PLACE);
        due(x.copy(0, 0, 2, 0, MIN), NO_PLACE);
        of(64, "all four forms: like ones alone");
        for (int a = 0; a < 4; a++) {
            for (int b = 0; b < 4; b++) {
                x.forge(0, a, 1);
                x.forge(1, b, 1);
                due(x.copy(0, 0, 1, 0, 1), a == b ? 1 : UNLIKE);
            }
        }
    }

    private static void copiedEdges() {
        GrammarTools x = new GrammarTools();
        x.forge(0, 2, 40);
        x.forge(1, 2, 40);
        for (int i = 0; i < 40; i++) {
            x.set(0, i, i + 1);
        }
        of(64, "all 40 CELLS");
        due(x.copy(0, 0, 1, 0, 40), 1);
        due(x.get(1, 0), 1);
        due(x.get(1, 39), 40);
        of(64, "one CELL more than there is, of either");
        due(x.copy(0, 0, 1, 0, 41), NO_PLACE);
        due(x.copy(0, 1, 1, 0, 40), NO_PLACE);
        due(x.copy(0, 0, 1, 1, 40), NO_PLACE);
        due(x.copy(0, 39, 1, 0, 2), NO_PLACE);
        due(x.copy(0, 0, 1, 39, 2), NO_PLACE);
        due(x.copy(0, 40, 1, 0, 1), NO_PLACE);
        due(x.copy(0, 0, 1, 40, 1), NO_PLACE);
        due(x.copy(0, -1, 1, 0, 1), NO_PLACE);
        due(x.copy(0, 0, 1, -1, 1), NO_PLACE);
        of(64, "numbers that would wrap");
        due(x.copy(0, 1, 1, 0, MAX), NO_PLACE);
        due(x.copy(0, MAX, 1, 0, 1), NO_PLACE);
        due(x.copy(0, MAX, 1, MAX, MAX), NO_PLACE);
        due(x.copy(0, MIN, 1, MIN, MAX), NO_PLACE);
        due(x.copy(0, MIN, 1, 0, MIN), NO_PLACE);
        of(64, "the last CELL to the first place, the first to the last");
        due(x.copy(0, 39, 1, 0, 1), 1);
        due(x.copy(0, 0, 1, 39, 1), 1);
        due(x.get(1, 0), 40);
        due(x.get(1, 39), 1);
        due(x.get(1, 1), 2);
        due(x.get(1, 38), 39);
        of(64, "sheets of unlike sizes");
        x.forge(2, 2, 2);
        due(x.copy(0, 38, 2, 0, 2), 1);
        due(x.get(2, 0), 39);
        due(x.get(2, 1), 40);
        due(x.copy(0, 37, 2, 0, 3), NO_PLACE);
        due(x.copy(2, 0, 0, 38, 2), 1);
    }

    private static void copiedNothing() {
        GrammarTools x = new GrammarTools();
        x.forge(0, 0, 2);
        x.forge(1, 0, 0);
        x.set(0, 0, 7);
        of(64, "no CELLS: 1, behind the last place, too");
        due(x.copy(0, 0, 1, 0, 0), 1);
        due(x.copy(0, 2, 1, 0, 0), 1);
        due(x.copy(1, 0, 0, 2, 0), 1);
        due(x.copy(1, 0, 1, 0, 0), 1);
        of(64, "no CELLS, of places that it has not");
        due(x.copy(0, 3, 1, 0, 0), NO_PLACE);
        due(x.copy(0, -1, 1, 0, 0), NO_PLACE);
        due(x.copy(0, 0, 1, 1, 0), NO_PLACE);
        due(x.copy(0, 0, 1, -1, 0), NO_PLACE);
        due(x.get(0, 0), 7);
        due(x.get(0, 1), 0);
    }

    private static void copiedOverItself() {
        GrammarTools x = new GrammarTools();
        x.forge(0, 1, 6);
        of(64, "to itself: CELLS are what they were ahead of the call");
        for (int i = 0; i < 6; i++) {
            x.set(0, i, i);
        }
        due(x.copy(0, 0, 0, 2, 4), 1);
        int[] on = {0, 1, 0, 1, 2, 3};
        for (int i = 0; i < 6; i++) {
            due(x.get(0, i), on[i]);
        }
        due(x.copy(0, 1, 0, 0, 5), 1);
        int[] back = {1, 0, 1, 2, 3, 3};
        for (int i = 0; i < 6; i++) {
            due(x.get(0, i), back[i]);
        }
        due(x.copy(0, 0, 0, 0, 6), 1);
        for (int i = 0; i < 6; i++) {
            due(x.get(0, i), back[i]);
        }
    }

    private static void takeRefusedInOrder() {
        GrammarTools x = new GrammarTools();
        text(x, 0, 1, 2);
        of(65, "UNKNOWN ahead of -11");
        for (int t : row(-1, 8, MAX, MIN)) {
            due(x.take(t, 0), UNKNOWN);
        }
        for (int s : row(-1, 4, MAX, MIN)) {
            due(x.take(0, s), UNKNOWN);
        }
        of(65, "-11");
        due(x.take(0, 0), MISSING);
        due(x.take(0, 3), MISSING);
        of(65, "FULL: more than 16, ahead of -15");
        x.forge(0, 2, 17);
        due(x.take(0, 0), FULL);
        x.set(0, 16, -1);
        due(x.take(0, 0), FULL);
        x.forge(0, 2, 40);
        due(x.take(0, 0), FULL);
        of(65, "-15, and the TEXT is as it was");
        x.forge(0, 2, 16);
        x.set(0, 15, -1);
        due(x.take(0, 0), NO_CODE);
        cells(x, 0, 1, 2);
    }

    private static void takenSizes() {
        GrammarTools x = new GrammarTools();
        of(65, "no CELLS: the TEXT is empty");
        text(x, 0, times(16, 1));
        x.forge(0, 0, 0);
        due(x.take(0, 0), 0);
        due(x.at(0, 0), NONE);
        due(x.wipe(0), 0);
        of(65, "16 are not too many");
        x.forge(0, 0, 16);
        for (int i = 0; i < 16; i++) {
            x.set(0, i, 40 + i);
        }
        due(x.take(7, 0), 16);
        due(x.at(7, 15), 55);
        due(x.cell(7, 1), FULL);
        of(65, "fewer than there were");
        x.forge(0, 0, 1);
        due(x.take(7, 0), 1);
        cells(x, 7, 0);
    }

    private static void takenCodes() {
        GrammarTools x = new GrammarTools();
        x.forge(0, 2, 1);
        of(65, "all CELLS of a SHEET: each code");
        for (int code : row(0, 11, 20, 35, 40, 139)) {
            x.set(0, 0, code);
            due(x.take(0, 0), 1);
            due(x.at(0, 0), code);
        }
        of(65, "-15 a CELL that is no code");
        for (int code : row(-1, 12, 19, 36, 39, 140, 65535, MAX, MIN)) {
            x.set(0, 0, code);
            due(x.take(0, 0), NO_CODE);
        }
        due(x.at(0, 0), 139);
        of(65, "a byte can't hold the last NUMBERS");
        x.forge(1, 0, 1);
        due(x.set(1, 0, 127), 127);
        due(x.take(0, 1), 1);
        due(x.at(0, 0), 127);
        due(x.set(1, 0, 128), -128);
        due(x.take(0, 1), NO_CODE);
        of(65, "a SHEET that was taken stays");
        x.set(0, 0, 20);
        due(x.take(1, 0), 1);
        x.put(1, 0, 5);
        due(x.get(0, 0), 20);
        due(x.take(2, 0), 1);
    }
}
