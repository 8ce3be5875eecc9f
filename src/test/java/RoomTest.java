import java.lang.reflect.Array;
import java.lang.reflect.Field;
import java.lang.reflect.Modifier;
import java.nio.file.Files;
import java.nio.file.Path;
import java.util.ArrayDeque;
import java.util.Deque;
import java.util.IdentityHashMap;
import java.util.Map;
import java.util.regex.Matcher;
import java.util.regex.Pattern;

/** All calls of a run live in one room: an object is small, none is made behind a constructor, and none grows. */
public final class RoomTest {
    private static final String SOURCE = "src/main/java/FogGuides.java";
    // The room has some 600,000 objects and 7.3 million fields and elements; so it holds thousands of these.
    private static final int MOST_OBJECTS = 100, MOST_ELEMENTS = 2000;
    private static final String FULLEST = "c0;c1;c2;c3;c0;c1;c2;s0 1 9;s1 2 9;s2 3 9;s3 4 9;s4 5 9;s5 6 9;s6 0 9;s0 3 9;s1 4 9;"
        + "g5 9 31 15 31 3;g4 9 31 15 31 3;g3 9 31 15 31 3;g2 9 31 15 31 3;f0 1 1 1 1 1 1 1;h9;";
    private static int wrong = 0;

    private static void need(boolean holds, String what) {
        if (holds) return;
        wrong++;
        System.out.println("not so: " + what);
    }

    /** How many objects and arrays hang on this one, and how many fields and elements they have. */
    private static int[] size(Object root) throws IllegalAccessException {
        Map<Object, Boolean> seen = new IdentityHashMap<>();
        Deque<Object> open = new ArrayDeque<>();
        open.add(root);
        int elements = 0;
        while (!open.isEmpty()) {
            Object o = open.poll();
            if (seen.put(o, true) != null) continue;
            if (o.getClass().isArray()) {
                elements += Array.getLength(o);
                if (o instanceof Object[] row) for (Object inside : row) if (inside != null) open.add(inside);
                continue;
            }
            for (Field f : o.getClass().getDeclaredFields()) {
                if (Modifier.isStatic(f.getModifiers())) continue;
                elements++;
                f.setAccessible(true);
                if (!f.getType().isPrimitive() && f.get(o) != null) open.add(f.get(o));
            }
        }
        return new int[] {seen.size(), elements};
    }

    private static void askAll(FogGuides x, int i) {
        x.waits(1 + i % 99);
        x.hires(i % 4);
        x.leads(i % 9);
        x.soonest(0, i % 7, 0);
        x.cheapest(i % 7, 0, 1);
        x.forFee(0, 6, 999);
        x.byBells(0, i, 6);
        x.taught(i % 4, 1);
        x.feels(i % 4);
        x.went(i % 7);
        x.fits(i % 4);
        x.falseMark();
        x.wishes(i % 7, (i + 1) % 7, i);
        x.day(i % 4, 0, 99, 1);
        x.rate(i % 6, i % 4);
        x.keep(i % 2);
        x.back(i % 2);
        x.undo();
        x.type(32);
    }

    private static void staysSmall() throws IllegalAccessException {
        FogGuides x = new FogGuides();
        int[] made = size(x);
        need(made[0] <= MOST_OBJECTS, "an object is at most " + MOST_OBJECTS + " objects: " + made[0]);
        need(made[1] <= MOST_ELEMENTS, "an object has at most " + MOST_ELEMENTS + " fields and elements: " + made[1]);
        for (int i = 0; i < FULLEST.length(); i++) x.type(FULLEST.charAt(i));
        need(x.town() == 22, "the fullest town is read");
        for (int i = 0; i < 15; i++) askAll(x, i);
        x.town();
        int[] used = size(x);
        need(used[0] == made[0] && used[1] == made[1], "an object does not grow: " + used[0] + ", " + used[1]);
    }

    private static void madeByConstructorsAlone() throws java.io.IOException {
        Pattern header = Pattern.compile("^(?: {4}| {8})\\S.*\\) \\{$");
        Pattern constructor = Pattern.compile("^ +(?:public )?[A-Z]\\w*\\(.*\\) \\{$");
        boolean making = false;
        for (String line : Files.readString(Path.of(SOURCE)).split("\n")) {
            Matcher m = header.matcher(line);
            if (m.matches()) making = constructor.matcher(line).matches();
            boolean makes = line.replaceAll("//.*", "").matches(".*(\\bnew |\\.clone\\(|copyOf).*");
            need(making || !makes, "made by a constructor: " + line.trim());
        }
    }

    public static void main(String[] args) throws Exception {
        staysSmall();
        madeByConstructorsAlone();
        System.out.println(wrong == 0 ? "it is small and stays so" : wrong + " things are not so");
        if (wrong != 0) System.exit(1);
    }
}
