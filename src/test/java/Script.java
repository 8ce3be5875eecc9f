import java.lang.reflect.InvocationTargetException;
import java.lang.reflect.Method;

/**
 * A run of calls on one new object, each written with the answer that is due ("hires 0 = STATE"), under the words
 * of the document that ask for it. A * in a call stands for 0, 1, 2 .. and as many answers are due in a row.
 */
final class Script {
    // Behind these the document promises nothing, so a run that goes on is a fault of the test.
    private static final int MOST_CALLS = 512, LONGEST_WAIT = 99;
    private static int scripts = 0;
    private static int wrong = 0;

    private final String words;
    private final FogGuides x = new FogGuides();
    private int calls = 0;

    Script(String words) {
        this.words = words;
        scripts++;
    }

    Script typed(String text) {
        long had = ask("count", 9);
        for (int i = 0; i < text.length(); i++) {
            need("type " + (int) text.charAt(i), had + i + 1, ask("type", text.charAt(i)));
        }
        return this;
    }

    /** The text is read, and has as many items as it has stops. */
    Script told(String text) {
        return typed(text).due("town = " + text.chars().filter(c -> c == ';').count());
    }

    /** The text has its first fault at this place, and stays as it is until it is cleared. */
    Script fault(String text, int place) {
        typed(text);
        need("town of '" + text + "'", -10L - place, ask("town"));
        return due("clear = " + text.length());
    }

    Script due(String... rows) {
        for (String row : rows) dueRow(row);
        return this;
    }

    Script waitedTo(int minute) {
        int left = minute - (int) ask("now", 1);
        while (left > 0) {
            int n = Math.min(left, LONGEST_WAIT);
            need("waits " + n, minute - left + n, ask("waits", n));
            left -= n;
        }
        return this;
    }

    private void dueRow(String row) {
        String[] sides = row.split(" *= *");
        String[] call = sides[0].trim().split(" +");
        String[] answers = sides[1].trim().split(" +");
        for (int i = 0; i < answers.length; i++) {
            int[] args = new int[call.length - 1];
            for (int k = 0; k < args.length; k++) args[k] = call[k + 1].equals("*") ? i : Integer.parseInt(call[k + 1]);
            need(call[0] + java.util.Arrays.toString(args), number(answers[i]), ask(call[0], args));
        }
        if (answers.length > 1 && !sides[0].contains("*")) throw new IllegalStateException(row);
    }

    private static long number(String answer) {
        switch (answer) {
            case "BAD": return FogGuides.BAD;
            case "STATE": return FogGuides.STATE;
            case "FULL": return FogGuides.FULL;
            case "NONE": return FogGuides.NONE;
            case "NO": return FogGuides.NO;
            default: return Long.parseLong(answer);
        }
    }

    private long ask(String name, int... args) {
        calls++;
        if (calls > MOST_CALLS) throw new IllegalStateException("more than 512 calls: " + words);
        Object[] given = new Object[args.length];
        Class<?>[] types = new Class<?>[args.length];
        for (int i = 0; i < args.length; i++) {
            given[i] = args[i];
            types[i] = int.class;
        }
        try {
            Method method = FogGuides.class.getMethod(name, types);
            return ((Number) method.invoke(x, given)).longValue();
        } catch (InvocationTargetException e) {
            System.out.println(name + " threw " + e.getCause());
            return Long.MIN_VALUE;
        } catch (ReflectiveOperationException e) {
            throw new IllegalStateException(e);
        }
    }

    private void need(String call, long want, long got) {
        if (got == want) return;
        wrong++;
        System.out.println("\"" + words + "\": " + call + ", call " + calls + ", answered " + got + ", due is " + want);
    }

    static void end() {
        System.out.println(wrong == 0 ? scripts + " runs are as due" : wrong + " answers are not as due");
        if (wrong != 0) System.exit(1);
    }
}
