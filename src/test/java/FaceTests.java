import java.io.IOException;
import java.lang.reflect.Array;
import java.lang.reflect.Constructor;
import java.lang.reflect.Field;
import java.lang.reflect.Member;
import java.lang.reflect.Method;
import java.lang.reflect.Modifier;
import java.nio.file.Files;
import java.nio.file.Path;
import java.util.ArrayList;
import java.util.Arrays;
import java.util.IdentityHashMap;
import java.util.List;
import java.util.Set;
import java.util.TreeSet;
import java.util.regex.Matcher;
import java.util.regex.Pattern;

/** The public face: just what the document tells, and nothing else that can be seen from outside. */
public final class FaceTests extends Asking {
    /** Each method with a letter for each parameter: i an int, b a boolean. */
    private static final String METHODS = "length iii, form iiiiiii, clear i, forms iii, gap iiii, name iiii, scope iib, rule iiii, "
        + "unrule ii, mean iii, count i, cell ii, put iii, wipe i, at ii, readings ii, read iii, idle i, rows iii, two iii, price ii, "
        + "mend iii, size ii, node iii, slot iii, leaf iii, spell ii, write ii, keep ii, strike i, like iiii, pin iii, lay iii, "
        + "laid iiii, distance ii, move iii, join iiii, bound ii, uses ii, rename iii, kind iib, blamed ii, world iii, run iii, "
        + "value , show ii, hide , find i, turned iii, fits ii, apply iii, law ib, kept i, tried i, map iiiiiii, unmap i, "
        + "carry ii, left i, hint iii, forge iii, set iii, get ii, copy iiiii, take ii";
    private static final String CONSTANTS = "FULL LARGE NONE NOT OUTSIDE SPENT UNKNOWN";

    public static void main(String[] args) throws IllegalAccessException, IOException {
        Class<?> face = GrammarTools.class;
        of(0, "public final class GrammarTools");
        due(Modifier.isPublic(face.getModifiers()) && Modifier.isFinal(face.getModifiers()) ? 1 : 0, 1);
        due(face.getSuperclass() == Object.class ? 1 : 0, 1);
        due(face.getInterfaces().length, 0);
        constructors(face);
        constants(face);
        methods(face);
        classesInside(face);
        room();
        lines();
        end("the face is the document's");
    }

    private static boolean isSeen(Member m) {
        return !Modifier.isPrivate(m.getModifiers()) && !m.isSynthetic();
    }

    private static void same(Set<String> got, Set<String> want) {
        due(got.equals(want) ? 1 : 0, 1);
        if (!got.equals(want)) {
            System.out.println("    seen: " + got + "\n    told: " + want);
        }
    }

    private static void constructors(Class<?> face) {
        of(1, "public GrammarTools()");
        Constructor<?>[] all = face.getDeclaredConstructors();
        due(all.length, 1);
        due(all[0].getParameterCount(), 0);
        due(Modifier.isPublic(all[0].getModifiers()) ? 1 : 0, 1);
    }

    private static void constants(Class<?> face) throws IllegalAccessException {
        of(0, "the constants");
        Set<String> seen = new TreeSet<>();
        for (Field f : face.getDeclaredFields()) {
            if (isSeen(f)) {
                seen.add(f.getName());
                due(f.getModifiers(), Modifier.PUBLIC | Modifier.STATIC | Modifier.FINAL);
                due(f.getType() == int.class ? 1 : 0, 1);
                due(f.getName().equals("NONE") || f.getInt(null) < -100000 ? 1 : 0, 1);
            }
            // no static state
            due(!Modifier.isStatic(f.getModifiers()) || Modifier.isFinal(f.getModifiers()) ? 1 : 0, 1);
        }
        same(seen, new TreeSet<>(Arrays.asList(CONSTANTS.split(" "))));
        int[] told = {NONE, UNKNOWN, OUTSIDE, NOT, FULL, SPENT, LARGE};
        int[] due = {-1, -100001, -100002, -100003, -100004, -100005, -100006};
        for (int i = 0; i < told.length; i++) {
            due(told[i], due[i]);
        }
    }

    private static void methods(Class<?> face) {
        of(0, "the methods");
        Set<String> seen = new TreeSet<>();
        Set<String> names = new TreeSet<>();
        for (Method m : face.getDeclaredMethods()) {
            if (isSeen(m)) {
                StringBuilder row = new StringBuilder(m.getName()).append(' ');
                for (Class<?> type : m.getParameterTypes()) {
                    row.append(type == int.class ? 'i' : type == boolean.class ? 'b' : '?');
                }
                seen.add(row.toString());
                names.add(m.getName());
                due(m.getReturnType() == int.class ? 1 : 0, 1);
                due(m.getModifiers(), Modifier.PUBLIC);
            }
        }
        same(seen, new TreeSet<>(Arrays.asList(METHODS.split(", "))));
        of(0, "no private method bears the name of a public one");
        for (Method m : face.getDeclaredMethods()) {
            due(!isSeen(m) && names.contains(m.getName()) ? 1 : 0, 0);
        }
    }

    private static void classesInside(Class<?> face) {
        of(0, "classes inside are static, and private or package-visible");
        for (Class<?> c : face.getDeclaredClasses()) {
            int is = c.getModifiers();
            due(Modifier.isPublic(is) || Modifier.isProtected(is) ? 1 : 0, 0);
            due(Modifier.isStatic(is) ? 1 : 0, 1);
        }
    }

    /** Twenty objects must find place in the room that all calls of a run share; calls make nothing more. */
    private static void room() {
        of(0, "objects and elements of a new object");
        long[] many = new long[2];
        count(new GrammarTools(), many, new IdentityHashMap<>());
        due(many[0] < 2000 ? 1 : 0, 1);
        due(many[1] < 350000 ? 1 : 0, 1);
    }

    private static void count(Object x, long[] many, IdentityHashMap<Object, Boolean> seen) {
        if (x == null || seen.put(x, true) != null) {
            return;
        }
        many[0]++;
        if (x.getClass().isArray()) {
            int n = Array.getLength(x);
            many[1] += n;
            for (int i = 0; i < n && !x.getClass().getComponentType().isPrimitive(); i++) {
                count(Array.get(x, i), many, seen);
            }
            return;
        }
        for (Field f : x.getClass().getDeclaredFields()) {
            if (!Modifier.isStatic(f.getModifiers())) {
                many[1]++;
                if (!f.getType().isPrimitive()) {
                    f.setAccessible(true);
                    try {
                        count(f.get(x), many, seen);
                    } catch (IllegalAccessException e) {
                        throw new IllegalStateException(e);
                    }
                }
            }
        }
    }

    /** The lines of the face, and those ahead of its calls, in the document's order. */
    private static void lines() throws IOException {
        String doc = Files.readString(Path.of("../shared/DOC.md"));
        String[] source = Files.readString(Path.of("src/main/java/GrammarTools.java")).split("\n");
        List<String> told = new ArrayList<>();
        List<String> written = new ArrayList<>();
        for (String line : doc.substring(doc.indexOf("```java") + 8, doc.indexOf("\n}\n```")).split("\n")) {
            told.add(line.strip().replaceAll(" \\{$|;$", ""));
        }
        for (String line : source) {
            if (line.startsWith("public ") || line.startsWith("    public ")) {
                written.add(line.strip().replaceAll(" \\{$|;$", ""));
            }
        }
        of(0, "the public face, line by line");
        same(written, told);
        of(0, "ahead of the calls the interface says");
        same(sectionsOf(source), sectionsTold(doc));
    }

    private static void same(List<String> got, List<String> want) {
        due(got.equals(want) ? 1 : 0, 1);
        for (int i = 0; i < Math.max(got.size(), want.size()); i++) {
            String is = i < got.size() ? got.get(i) : "nothing";
            String told = i < want.size() ? want.get(i) : "nothing";
            if (!is.equals(told)) {
                System.out.println("    stands: " + is + "\n    told: " + told);
            }
        }
    }

    /** Of each call the line ahead of it, and its name, as the document tells them. */
    private static List<String> sectionsTold(String doc) {
        List<String> all = new ArrayList<>();
        Matcher sentence = Pattern.compile("Ahead of the calls (.*) the interface says: ---- (.*)\\.").matcher(doc);
        while (sentence.find()) {
            for (String name : sentence.group(1).split(", ")) {
                all.add(sentence.group(2) + ": " + name.replace("`", ""));
            }
        }
        return all;
    }

    private static List<String> sectionsOf(String[] source) {
        List<String> all = new ArrayList<>();
        String section = "";
        Pattern call = Pattern.compile("    public int (\\w+)\\(.*");
        for (String line : source) {
            Matcher m = call.matcher(line);
            if (m.matches()) {
                all.add(section + ": " + m.group(1));
            }
            section = line.startsWith("    // ---- ") ? line.substring(12) : section;
        }
        return all;
    }
}
