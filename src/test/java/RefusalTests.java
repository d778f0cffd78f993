import java.util.ArrayList;
import java.util.Arrays;
import java.util.List;

/** What is refused changes nothing: each kind of refusal of each call, and then all that can be asked. */
public final class RefusalTests extends Asking {
    private static final int PARTS = 5;

    interface Call {
        int on(GrammarTools x);
    }

    record Refused(int promise, int due, Call call) {
    }

    private static final List<Refused> REFUSED = new ArrayList<>();

    public static void main(String[] args) {
        refusedTellings();
        refusedTexts();
        refusedReadings();
        refusedTrees();
        refusedSettings();
        refusedNamesAndKinds();
        refusedTurns();
        refusedMaps();
        refusedSheets();
        int[][] asItWas = new int[PARTS][];
        for (int part = 0; part < PARTS; part++) {
            asItWas[part] = look(everything(), part);
        }
        for (Refused r : REFUSED) {
            of(r.promise(), "what is refused changes nothing");
            for (int part = 0; part < PARTS; part++) {
                GrammarTools x = everything();
                due(r.call().on(x), r.due());
                due(Arrays.equals(look(x, part), asItWas[part]) ? 1 : 0, 1);
            }
        }
        end(REFUSED.size() + " refused calls change nothing");
    }

    private static void refused(int promise, int due, Call call) {
        REFUSED.add(new Refused(promise, due, call));
    }

    // ---- an object that has something of all

    private static GrammarTools everything() {
        GrammarTools x = sums();
        tellSums(x, 1);
        for (int i = 0; i < 6; i++) {
            x.rule(0, 4, i % 2 - 1, i % 2);
        }
        x.gap(0, 1, 0, 2);
        x.name(0, 5, 0, 1);
        x.scope(0, 5, true);
        x.mean(0, 1, 1);
        x.length(0, 0, 5);
        x.world(3, 15, 9);
        text(x, 0, 41, 0, 20);
        text(x, 1, times(16, 1));
        text(x, 2, 41, 0);
        treesAndTurns(x);
        for (int f = 0; f < 4; f++) {
            x.map(f, f, 0, 1, 0, 0, 0);
        }
        x.forge(0, 0, 3);
        x.forge(1, 2, 17);
        x.forge(2, 2, 2);
        x.set(0, 1, 200);
        x.set(1, 16, 40);
        x.set(2, 1, 12);
        return x;
    }

    /** Trees 0 a sum, 1 a let, 2 of telling 1, 3 with more than 16 codes, 4 of 32 nodes; turns 0 (a law) and 1 put eight for one. */
    private static void treesAndTurns(GrammarTools x) {
        turnOf(x, 1, row(20), row(20, 0, 20, 0, 20, 0, 20, 0, 20, 0, 20, 0, 20, 0, 20));
        x.find(0);
        x.law(0, true);
        tree(x, 3, 20, 0, 20);
        x.apply(1, 3, 3);
        tree(x, 4, 2, 20, 3);
        x.apply(1, 4, 4);
        x.apply(1, 4, 4);
        x.hide();
        tree(x, 0, 41, 0, 20);
        tree(x, 1, 4, 20, 5, 20, 0, 21);
        treeOf(x, 1, 2, 41, 0, 42);
        x.pin(0, 0, 1);
        x.pin(1, 1, 2);
        x.run(0, 0, 10);
        for (int i = 0; i < 4; i++) {
            x.show(0, 10);
        }
    }

    // ---- all that can be asked

    private static int[] look(GrammarTools x, int part) {
        List<Integer> all = new ArrayList<>();
        switch (part) {
            case 0:
                lookAtTellings(x, all);
                break;
            case 1:
                lookAtTexts(x, all);
                break;
            case 2:
                lookAtTrees(x, all);
                break;
            case 3:
                lookAtTurns(x, all);
                break;
            default:
                lookAtSheets(x, all);
                break;
        }
        for (int what = 0; what < 8; what++) {
            all.add(x.count(what));
        }
        return all.stream().mapToInt(i -> i).toArray();
    }

    private static void lookAtTellings(GrammarTools x, List<Integer> all) {
        for (int v = 0; v < 2; v++) {
            for (int f = 0; f < 7; f++) {
                for (int what = 0; what < 11; what++) {
                    all.add(x.forms(v, f, what));
                }
                all.add(x.gap(v, f, 0, 1));
                all.add(x.gap(v, f, 1, 1));
                all.add(x.name(v, f, 0, 0));
            }
            for (int word = 0; word < 12; word++) {
                all.add(x.length(v, word, 3));
            }
        }
    }

    private static void lookAtTexts(GrammarTools x, List<Integer> all) {
        for (int t = 0; t < 8; t++) {
            for (int i = 0; i < 17; i++) {
                all.add(x.at(t, i));
            }
        }
        for (int w = 0; w < 4; w++) {
            for (int name = 0; name < 16; name++) {
                all.add(x.world(w, name, 0));
            }
        }
        all.add(x.value());
    }

    private static void lookAtTrees(GrammarTools x, List<Integer> all) {
        for (int tree = 0; tree < 12; tree++) {
            for (int what = 0; what < 4; what++) {
                all.add(x.size(tree, what));
            }
            for (int i = 0; i < 16; i++) {
                all.add(x.spell(tree, i));
            }
            for (int n = 0; n < 7; n++) {
                all.add(x.node(tree, n, 3));
            }
            all.add(x.blamed(tree, NONE));
            all.add(x.lay(tree, 20, 2));
        }
    }

    private static void lookAtTurns(GrammarTools x, List<Integer> all) {
        for (int turn = 0; turn < 6; turn++) {
            for (int i = 0; i < 6; i++) {
                all.add(x.turned(turn, 0, i));
                all.add(x.turned(turn, 1, i));
            }
            all.add(x.law(turn, true));
        }
        all.add(x.find(5));
        for (int i = 0; i < 4; i++) {
            all.add(x.turned(5, 0, i));
        }
        for (int tree = 0; tree < 5; tree++) {
            all.add(x.carry(tree, 11));
            all.add(x.spell(11, 0));
            all.add(x.spell(11, 2));
        }
        for (int f = 0; f < 7; f++) {
            all.add(x.unmap(f));
        }
        all.add(x.hide());
    }

    private static void lookAtSheets(GrammarTools x, List<Integer> all) {
        for (int s = 0; s < 4; s++) {
            for (int i = 0; i < 41; i++) {
                all.add(x.get(s, i));
            }
            all.add(x.forge(s, 2, 1));
        }
    }

    // ---- what is refused

    private static void refusedTellings() {
        refused(2, UNKNOWN, x -> x.length(2, 0, 7));
        refused(2, OUTSIDE, x -> x.length(0, 12, 7));
        refused(2, OUTSIDE, x -> x.length(0, 0, 10));
        refused(3, UNKNOWN, x -> form(x, 2, 0, 1));
        refused(3, OUTSIDE, x -> form(x, 0, 6, 1));
        refused(3, OUTSIDE, x -> form(x, 0, 0, 1, 2, 12));
        refused(3, OUTSIDE, x -> form(x, 0, 0));
        refused(3, OUTSIDE, x -> form(x, 0, 0, 60));
        refused(4, UNKNOWN, x -> x.clear(2));
        refused(4, UNKNOWN, x -> x.clear(-1));
        refused(5, UNKNOWN, x -> x.forms(0, 6, 0));
        refused(6, UNKNOWN, x -> x.gap(0, 6, 0, 0));
        refused(6, OUTSIDE, x -> x.gap(0, 1, 2, 0));
        refused(6, OUTSIDE, x -> x.gap(0, 1, 0, 3));
        refused(7, UNKNOWN, x -> x.name(0, 6, 0, 2));
        refused(7, OUTSIDE, x -> x.name(0, 5, 0, 3));
        refused(7, OUTSIDE, x -> x.name(0, 5, 2, 2));
        refused(7, NOT, x -> x.name(0, 5, 1, 2));
        refused(8, UNKNOWN, x -> x.scope(0, 6, true));
        refused(9, UNKNOWN, x -> x.rule(0, 6, 0, 0));
        refused(9, OUTSIDE, x -> x.rule(0, 1, 2, 0));
        refused(9, OUTSIDE, x -> x.rule(0, 1, 0, 6));
        refused(9, OUTSIDE, x -> x.rule(0, 1, 0, 10));
        refused(9, FULL, x -> x.rule(0, 4, 0, 0));
        refused(10, UNKNOWN, x -> x.unrule(0, 6));
        refused(11, UNKNOWN, x -> x.mean(0, 6, 2));
        refused(11, OUTSIDE, x -> x.mean(0, 1, 8));
        refused(12, OUTSIDE, x -> x.count(8));
    }

    private static void refusedTexts() {
        refused(13, UNKNOWN, x -> x.cell(8, 1));
        refused(13, OUTSIDE, x -> x.cell(0, 12));
        refused(13, FULL, x -> x.cell(1, 2));
        refused(14, UNKNOWN, x -> x.put(8, 0, 1));
        refused(14, OUTSIDE, x -> x.put(0, 3, 1));
        refused(14, OUTSIDE, x -> x.put(0, 0, 12));
        refused(15, UNKNOWN, x -> x.wipe(8));
        refused(16, UNKNOWN, x -> x.at(8, 0));
    }

    private static void refusedReadings() {
        refused(17, UNKNOWN, x -> x.readings(2, 0));
        refused(18, UNKNOWN, x -> x.read(0, 0, 12));
        refused(18, NOT, x -> x.read(0, 2, 0));
        refused(18, NOT, x -> x.read(0, 2, 9));
        refused(19, UNKNOWN, x -> x.idle(2));
        refused(20, OUTSIDE, x -> x.rows(0, 0, 5));
        refused(21, OUTSIDE, x -> x.two(0, 5, 0));
        refused(22, UNKNOWN, x -> x.price(2, 0));
        refused(23, UNKNOWN, x -> x.mend(0, 0, 12));
        refused(23, UNKNOWN, x -> x.mend(0, 8, 0));
    }

    private static void refusedTrees() {
        refused(24, OUTSIDE, x -> x.size(0, 4));
        refused(25, UNKNOWN, x -> x.node(0, 4, 0));
        refused(26, OUTSIDE, x -> x.slot(0, 0, 2));
        refused(27, UNKNOWN, x -> x.leaf(0, 2, 0));
        refused(28, UNKNOWN, x -> x.spell(9, 0));
        refused(29, UNKNOWN, x -> x.write(9, 0));
        refused(29, UNKNOWN, x -> x.write(0, 8));
        refused(29, LARGE, x -> x.write(3, 0));
        refused(30, UNKNOWN, x -> x.keep(0, 9));
        refused(30, UNKNOWN, x -> x.keep(12, 0));
        refused(31, UNKNOWN, x -> x.strike(9));
        refused(31, UNKNOWN, x -> x.strike(12));
        refused(32, UNKNOWN, x -> x.like(0, 0, 0, 4));
    }

    private static void refusedSettings() {
        refused(33, UNKNOWN, x -> x.pin(0, 4, 1));
        refused(33, OUTSIDE, x -> x.pin(0, 0, 3));
        refused(34, OUTSIDE, x -> x.lay(0, 4, 0));
        refused(35, OUTSIDE, x -> x.laid(0, 61, 0, 0));
        refused(36, UNKNOWN, x -> x.distance(0, 9));
        refused(37, OUTSIDE, x -> x.move(0, 1, 3));
        refused(38, UNKNOWN, x -> x.join(0, 0, 0, 12));
        refused(38, UNKNOWN, x -> x.join(0, 9, 0, 1));
        refused(38, NOT, x -> x.join(0, 2, 0, 1));
        refused(38, NOT, x -> x.join(0, 0, 2, 9));
    }

    private static void refusedNamesAndKinds() {
        refused(39, NOT, x -> x.bound(0, 0));
        refused(40, NOT, x -> x.uses(0, 0));
        refused(41, UNKNOWN, x -> x.rename(1, 3, 0));
        refused(41, OUTSIDE, x -> x.rename(1, 0, 16));
        refused(41, NOT, x -> x.rename(1, 1, 3));
        // a use that would be caught
        refused(41, -202, x -> x.rename(1, 0, 1));
        refused(42, UNKNOWN, x -> x.kind(0, 2, true));
        refused(43, UNKNOWN, x -> x.blamed(9, NONE));
        refused(44, UNKNOWN, x -> x.world(4, 15, 1));
        refused(44, OUTSIDE, x -> x.world(3, 16, 1));
        refused(45, UNKNOWN, x -> x.run(1, 4, 10));
        refused(45, OUTSIDE, x -> x.run(1, 3, 1001));
        refused(45, SPENT, x -> x.run(1, 3, 1));
    }

    private static void refusedTurns() {
        refused(47, UNKNOWN, x -> x.show(0, 9));
        refused(47, NOT, x -> x.show(2, 2));
        refused(47, FULL, x -> x.show(0, 1));
        refused(49, UNKNOWN, x -> x.find(6));
        refused(50, OUTSIDE, x -> x.turned(0, 2, 0));
        refused(51, UNKNOWN, x -> x.fits(2, 0));
        refused(52, UNKNOWN, x -> x.apply(2, 0, 1));
        refused(52, UNKNOWN, x -> x.apply(0, 0, 12));
        refused(52, NOT, x -> x.apply(0, 2, 1));
        refused(52, LARGE, x -> x.apply(0, 4, 4));
        refused(52, LARGE, x -> x.apply(0, 4, 0));
        refused(53, UNKNOWN, x -> x.law(2, true));
        refused(54, UNKNOWN, x -> x.kept(2));
        refused(55, UNKNOWN, x -> x.tried(2));
    }

    private static void refusedMaps() {
        refused(56, UNKNOWN, x -> x.map(6, 0, 0, 0, 0, 0, 0));
        refused(56, UNKNOWN, x -> x.map(0, 6, 0, 0, 0, 0, 0));
        refused(56, OUTSIDE, x -> x.map(1, 1, 1, 1, 0, 0, 0));
        refused(56, OUTSIDE, x -> x.map(0, 2, 0, 0, 0, 0, 0));
        refused(57, UNKNOWN, x -> x.unmap(6));
        refused(58, UNKNOWN, x -> x.carry(0, 12));
        refused(58, NOT, x -> x.carry(2, 0));
        refused(58, NOT, x -> x.carry(1, 0));
        refused(59, NOT, x -> x.left(2));
        refused(60, OUTSIDE, x -> x.hint(0, 0, 2));
    }

    private static void refusedSheets() {
        refused(61, UNKNOWN, x -> x.forge(4, 0, 1));
        refused(61, OUTSIDE, x -> x.forge(0, 4, 1));
        refused(61, OUTSIDE, x -> x.forge(0, 0, 41));
        refused(61, -14, x -> x.forge(0, 0, -1));
        refused(61, -14, x -> x.forge(3, 0, -1));
        refused(62, -11, x -> x.set(3, 0, 1));
        refused(62, -13, x -> x.set(0, 3, 1));
        refused(63, -11, x -> x.get(3, 0));
        refused(64, UNKNOWN, x -> x.copy(0, 0, 4, 0, 1));
        refused(64, -11, x -> x.copy(0, 0, 3, 0, 1));
        refused(64, -12, x -> x.copy(0, 0, 1, 0, 1));
        refused(64, -13, x -> x.copy(1, 0, 2, 0, 3));
        refused(65, UNKNOWN, x -> x.take(8, 0));
        refused(65, -11, x -> x.take(0, 3));
        refused(65, FULL, x -> x.take(0, 1));
        refused(65, -15, x -> x.take(0, 0));
        refused(65, -15, x -> x.take(0, 2));
    }
}
