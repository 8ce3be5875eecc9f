import java.lang.reflect.Constructor;
import java.lang.reflect.Field;
import java.lang.reflect.Method;
import java.lang.reflect.Modifier;
import java.nio.file.Files;
import java.nio.file.Path;
import java.util.HashSet;
import java.util.Set;
import java.util.TreeSet;
import java.util.regex.Matcher;
import java.util.regex.Pattern;

/** The class's face is the document's and no more, and its source keeps to the rules of LANGUAGE.md that can be looked up. */
public final class FaceTest {
    private static final String SOURCE = "src/main/java/FogGuides.java";
    private static final String[] METHODS = {
        "int type(int)", "int clear()", "int town()", "int corner(int)", "int street(int,int)", "int guide(int,int)",
        "int fog(int)", "int hires(int)", "int leaves()", "int leads(int)", "int alone(int)", "int waits(int)",
        "int undo()", "int now(int)", "int soonest(int,int,int)", "int cheapest(int,int,int)", "int byOne(int,int)",
        "int forFee(int,int,int)", "int byBells(int,int,int)", "int taught(int,int)", "int feels(int)",
        "int went(int)", "int forget()", "int fits(int)", "int falseMark()", "int wishes(int,int,int)",
        "int grants()", "int day(int,int,int,int)", "int rate(int,int)", "int keep(int)", "int back(int)",
        "int count(int)", "long trace()"};
    private static final String[] CONSTANTS = {"BAD", "STATE", "FULL", "NONE", "NO"};
    // What the rules rule out, as words of the source without its comments.
    private static final String[] RULED_OUT = {
        "throw", "try", "catch", "synchronized", "assert", "import", "package", "lambda", "hashCode", "toString",
        "volatile", "transient", "native", "protected", "Exception", "System\\.(?!arraycopy)", "->", "::", "Exact\\("};
    private static int wrong = 0;

    private static void need(boolean holds, String what) {
        if (holds) return;
        wrong++;
        System.out.println("not so: " + what);
    }

    private static String face(Method m) {
        StringBuilder b = new StringBuilder(m.getReturnType().getName()).append(' ').append(m.getName()).append('(');
        Class<?>[] types = m.getParameterTypes();
        for (int i = 0; i < types.length; i++) b.append(i == 0 ? "" : ",").append(types[i].getName());
        return b.append(')').toString();
    }

    private static void checkMethods() {
        Set<String> due = new TreeSet<>(Set.of(METHODS));
        Set<String> names = new HashSet<>();
        for (String m : METHODS) names.add(m.substring(m.indexOf(' ') + 1, m.indexOf('(')));
        Set<String> open = new TreeSet<>();
        for (Method m : FogGuides.class.getDeclaredMethods()) {
            if (m.isSynthetic()) continue;
            boolean hidden = Modifier.isPrivate(m.getModifiers());
            if (!hidden) {
                open.add(face(m));
                need(m.getModifiers() == Modifier.PUBLIC, m.getName() + " is public and nothing else");
            }
            need(!hidden || !names.contains(m.getName()), "no private method is named " + m.getName());
            need(m.getParameterCount() <= 7, m.getName() + " takes at most seven");
        }
        need(open.equals(due), "the open methods are those of the document: " + open);
        for (Class<?> inside : FogGuides.class.getDeclaredClasses()) {
            need(Modifier.isStatic(inside.getModifiers()), inside + " is static");
            need(!Modifier.isPublic(inside.getModifiers()), inside + " is not public");
            for (Method m : inside.getDeclaredMethods()) {
                need(!names.contains(m.getName()), inside + " has no " + m.getName());
                need(m.getParameterCount() <= 7, m.getName() + " takes at most seven");
            }
        }
    }

    private static void checkFields() {
        Set<String> open = new TreeSet<>();
        for (Field f : FogGuides.class.getDeclaredFields()) {
            if (f.isSynthetic()) continue;
            int how = f.getModifiers();
            if (!Modifier.isPrivate(how)) {
                open.add(f.getName());
                need(Modifier.isPublic(how) && Modifier.isStatic(how) && f.getType() == int.class, f + " is a constant");
            }
            need(!Modifier.isStatic(how) || Modifier.isFinal(how), f + " is final, if static");
        }
        need(open.equals(new TreeSet<>(Set.of(CONSTANTS))), "the open fields are the constants: " + open);
    }

    private static void checkSource() throws java.io.IOException {
        String source = Files.readString(Path.of(SOURCE));
        need(source.chars().allMatch(c -> c < 128), "the source has signs 1 to 127 alone");
        String bare = source.replaceAll("(?s)/\\*.*?\\*/", "").replaceAll("//[^\n]*", "");
        for (String word : RULED_OUT) {
            String pattern = Character.isLetter(word.charAt(0)) ? "\\b" + word : word;
            if (Character.isLetter(word.charAt(word.length() - 1))) pattern += "\\b";
            Matcher m = Pattern.compile(pattern).matcher(bare);
            need(!m.find(), "there is no " + word);
        }
        Matcher classes = Pattern.compile("\\b(class|interface|enum|record)\\s+[A-Z]").matcher(bare);
        int count = 0;
        while (classes.find()) count++;
        need(count <= 12, "there are at most twelve classes: " + count);
        checkMethodLengths(bare);
    }

    private static void checkMethodLengths(String bare) {
        String[] lines = bare.split("\n");
        int begun = -1;
        String indent = "";
        for (int i = 0; i < lines.length; i++) {
            Matcher m = Pattern.compile("^( {4}| {8})\\S.*\\) \\{$").matcher(lines[i]);
            if (begun < 0 && m.find()) {
                begun = i;
                indent = m.group(1);
            } else if (begun >= 0 && lines[i].equals(indent + "}")) {
                need(i - begun < 60, "short enough: " + lines[begun].trim());
                begun = -1;
            }
        }
    }

    public static void main(String[] args) throws Exception {
        int how = FogGuides.class.getModifiers();
        need(how == (Modifier.PUBLIC | Modifier.FINAL), "the class is public and final");
        need(FogGuides.class.getSuperclass() == Object.class, "the class is under none");
        need(FogGuides.class.getInterfaces().length == 0, "the class has no interface");
        Constructor<?>[] made = FogGuides.class.getDeclaredConstructors();
        need(made.length == 1 && Modifier.isPublic(made[0].getModifiers()) && made[0].getParameterCount() == 0,
            "there is one public constructor of nothing");
        checkMethods();
        checkFields();
        checkSource();
        System.out.println(wrong == 0 ? "the face is as told" : wrong + " things are not so");
        if (wrong != 0) System.exit(1);
    }
}
