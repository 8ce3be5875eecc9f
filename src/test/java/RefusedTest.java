import java.lang.reflect.InvocationTargetException;
import java.lang.reflect.Method;
import java.lang.reflect.Modifier;
import java.util.ArrayList;
import java.util.HashMap;
import java.util.List;
import java.util.Map;

/**
 * "Refused, and nothing changes, the first of these: BAD, STATE, FULL": in several states each call is made with numbers
 * that are wild, and with numbers around each boundary. What is only asked, or refused, must leave the object such that
 * all that can be read of it (what may be undone, images, and the text, too) is as of a twin that was not called.
 */
public final class RefusedTest {
    private static final int MOST_CALLS = 512, BATCH = 20;
    private static final int[] WILD = {Integer.MIN_VALUE, -1000000, -9, -2, -1, 0, 1, 2, 3, 4, 5, 6, 7, 8, 9, 10, 98, 99, 100, 101,
        199, 200, 255, 256, 500, 999, 1000, 9998, 9999, 10000, Integer.MAX_VALUE};
    private static final int[] FEW = {Integer.MIN_VALUE, -1, 0, 1, 2, 3, 6, 7, 99, 100, 999, 1000, 9999, 10000, Integer.MAX_VALUE};
    private static final int[] FEWER = {Integer.MIN_VALUE, -1, 0, 1, 2, 4, 7, 99, 100, Integer.MAX_VALUE};
    private static final List<String> CHANGING = List.of("type", "clear", "town", "hires", "leaves", "leads", "alone", "waits", "undo",
        "feels", "went", "forget", "wishes", "grants", "keep", "back");

    private static final String TOWN = "c0;c1;c2;s0 1 4;s1 2 3;g1 2 1 0 3 0;g0 3 2 0 6 0;g0 0 3 0 1 0;f0 1;h2;";
    private static final String MOST = "c0;c0;c0;c0;c0;c0;c0;s0 1 1;s1 2 1;s2 3 1;s3 4 1;s4 5 1;s5 6 1;s0 1 2;s0 1 3;s6 0 9;"
        + "g0 0 1 0 1 0;g0 0 1 0 1 0;g0 0 1 0 1 0;g0 2 0 8 1 2;f0;";
    private static final String FILLED = "hires 0/leads 0/keep 0/waits 3/hires 1/leads 1/keep 1/leaves/waits 9/hires 1/leads 1/leaves/waits 1/"
        + "hires 0/leads 0/leaves/hires 2/feels 0/feels 1/feels 2/feels 1/feels 0/feels 1/went 0/went 1/went 2/went 1/went 0/went 1/"
        + "wishes 0 1 9/wishes 1 2 8/wishes 2 0 7/wishes 0 2 6/";

    private static final Map<String, Method> METHODS = new HashMap<>();

    // How many are felt, went, wished, may be undone, typed, and the minute, tell that the state is what its name says.
    private record State(String name, String text, String calls, String textLeft, int... counts) { }

    private static final State[] STATES = {
        new State("new", "", "", "", 0, 0, 0, 0, 0, 0),
        new State("no corners", "g0 1 31 15 31 3;f0;", "waits 5/feels 0/keep 0/waits 5/", "c0;", 1, 0, 0, 2, 3, 10),
        new State("begun", TOWN, "", "c3;h8;", 0, 0, 0, 0, 6, 0),
        new State("led", TOWN, "alone 0/hires 0/keep 0/hires 1/leads 1/feels 1/feels 2/went 1/wishes 0 1 5/", "c3;x", 2, 1, 1, 4, 4, 9),
        new State("most of all", MOST, "hires 3/leads 8/leaves/waits 5/feels 0/feels 0/went 6/went 0/wishes 6 0 7/", "c3;", 2, 2, 1, 4, 3, 14),
        new State("all full", TOWN, FILLED, "c3;f0 0 1;h9;" + " ".repeat(187), 6, 6, 4, 10, 200, 31),
        new State("late with nobody", TOWN, "waits 99/".repeat(101) + "keep 1/", "c3;", 0, 0, 0, 10, 3, 9999),
        new State("late with a guide", TOWN, "hires 0/" + "waits 99/".repeat(100) + "waits 98/waits 1/", "", 0, 0, 0, 10, 0, 9999)};

    private static int wrong = 0;
    private static int refused = 0;

    public static void main(String[] args) {
        for (Method method : FogGuides.class.getDeclaredMethods()) {
            if (Modifier.isPublic(method.getModifiers())) METHODS.put(method.getName(), method);
        }
        for (State state : STATES) {
            String twin = reading(made(state));
            checkSetUp(state);
            for (Method method : METHODS.values()) {
                if (CHANGING.contains(method.getName())) tryChanging(state, method, twin);
                else tryAsking(state, method, twin);
            }
        }
        System.out.println(wrong == 0 ? refused + " refused calls and all that was asked changed nothing" : wrong + " changed what they must not");
        if (wrong != 0) System.exit(1);
    }

    /** The call counter goes with the object, as behind 512 calls nothing is promised. */
    private static final class Counted {
        final FogGuides x = new FogGuides();
        int calls = 0;

        long ask(Method method, int... args) {
            calls++;
            if (calls > MOST_CALLS) throw new IllegalStateException("more than 512 calls");
            Object[] given = new Object[args.length];
            for (int i = 0; i < args.length; i++) given[i] = args[i];
            try {
                return ((Number) method.invoke(x, given)).longValue();
            } catch (InvocationTargetException e) {
                wrong++;
                System.out.println(method.getName() + java.util.Arrays.toString(args) + " threw " + e.getCause());
                return Long.MIN_VALUE;
            } catch (IllegalAccessException e) {
                throw new IllegalStateException(e);
            }
        }

        long ask(String row) {
            String[] words = row.split(" ");
            int[] args = new int[words.length - 1];
            for (int i = 0; i < args.length; i++) args[i] = Integer.parseInt(words[i + 1]);
            return ask(METHODS.get(words[0]), args);
        }
    }

    private static Counted made(State state) {
        Counted made = new Counted();
        for (char c : state.text.toCharArray()) made.ask("type " + (int) c);
        if (!state.text.isEmpty()) made.ask("town");
        for (String row : state.calls.split("/")) if (!row.isEmpty()) made.ask(row);
        for (char c : state.textLeft.toCharArray()) made.ask("type " + (int) c);
        return made;
    }

    private static void checkSetUp(State state) {
        Counted made = made(state);
        String[] rows = {"count 5", "count 6", "count 7", "count 8", "count 9", "now 1"};
        for (int i = 0; i < rows.length; i++) {
            long got = made.ask(rows[i]);
            if (got == state.counts[i]) continue;
            wrong++;
            System.out.println(state.name + ": " + rows[i] + " answered " + got + ", due is " + state.counts[i]);
        }
    }

    /** All that can be read of it; the calls that change it come last. */
    private static String reading(Counted made) {
        StringBuilder all = new StringBuilder();
        String[] rows = {"trace", "falseMark", "fog 0", "fog 10", "day 0 0 8 1", "day 0 0 50 1", "street 0 0", "street 1 2", "guide 0 2",
            "guide 1 3", "corner 2", "went 0", "count 6", "feels 3", "count 5", "wishes 1 0 1", "count 7"};
        for (int what = 0; what < 6; what++) all.append(made.ask("now " + what)).append(' ');
        for (int what = 0; what < 10; what++) all.append(made.ask("count " + what)).append(' ');
        for (int what = 0; what < 4; what++) all.append(made.ask("fits " + what)).append(' ');
        for (String row : rows) all.append(made.ask(row)).append(' ');
        readUndone(made, all, 11);
        for (int image = 0; image < 2; image++) {
            all.append("image ").append(made.ask("back " + image)).append(' ');
            readUndone(made, all, 3);
        }
        all.append("text ").append(made.ask("town")).append(' ');
        for (int what : new int[] {0, 3, 4, 9}) all.append(made.ask("count " + what)).append(' ');
        return all.append(made.ask("corner 0")).append(made.ask("fog 20")).append(made.ask("clear")).toString();
    }

    private static void readUndone(Counted made, StringBuilder all, int most) {
        for (int i = 0; i < most; i++) {
            for (int what = 0; what < 4; what++) all.append(made.ask("now " + what)).append(' ');
            long more = made.ask("undo");
            all.append("undo ").append(more).append(' ');
            if (more < 0) return;
        }
    }

    private static void tryChanging(State state, Method method, String twin) {
        for (int[] args : arguments(method)) {
            Counted made = made(state);
            long answer = made.ask(method, args);
            if (answer >= 0) continue;
            refused++;
            if (!reading(made).equals(twin)) changed(state, method, args);
        }
    }

    private static void tryAsking(State state, Method method, String twin) {
        // These alone come to the trace, which is read, so only what they refuse is asked here.
        boolean traced = method.getName().equals("rate");
        List<int[]> all = arguments(method);
        for (int begin = 0; begin < all.size(); begin += BATCH) {
            Counted made = made(state);
            long guides = made.ask("count 2");
            for (int i = begin; i < begin + BATCH && i < all.size(); i++) {
                int[] args = all.get(i);
                boolean counts = traced && args[0] >= 0 && args[0] <= 5 && args[1] >= 0 && args[1] < guides;
                if (!counts) made.ask(method, args);
            }
            if (!reading(made).equals(twin)) changed(state, method, all.get(begin));
        }
    }

    private static void changed(State state, Method method, int[] args) {
        wrong++;
        System.out.println(state.name + ": " + method.getName() + java.util.Arrays.toString(args) + " changed something, it or the next ones");
    }

    private static List<int[]> arguments(Method method) {
        int count = method.getParameterCount();
        boolean ownObjects = CHANGING.contains(method.getName());
        int[] values = count < 3 ? WILD : count == 3 && !ownObjects ? FEW : FEWER;
        List<int[]> all = new ArrayList<>();
        int rows = 1;
        for (int i = 0; i < count; i++) rows *= values.length;
        for (int row = 0; row < rows; row++) {
            int[] args = new int[count];
            for (int i = 0, rest = row; i < count; i++, rest /= values.length) args[i] = values[rest % values.length];
            all.add(args);
        }
        return all;
    }
}
