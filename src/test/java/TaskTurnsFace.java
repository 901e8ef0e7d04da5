import java.io.IOException;
import java.lang.reflect.Constructor;
import java.lang.reflect.Field;
import java.lang.reflect.Method;
import java.lang.reflect.Modifier;
import java.nio.file.Files;
import java.nio.file.Path;
import java.util.Set;
import java.util.TreeSet;
import java.util.regex.Pattern;

// The class has the document's public face and no more, and the source has no word that LANGUAGE.md rules out.
public final class TaskTurnsFace {
    private static final Set<String> FACE = Set.of(
        "public static final int BAD", "public static final int NO", "public static final int FULL",
        "public static final int NONE", "public TaskTurns()", "public int task(int,int)",
        "public int act(int,int,int,int)", "public int workers(int)", "public int turn(int)",
        "public int letter(int,int)", "public int stop(int)", "public int again(int)", "public int of(int,int)",
        "public int at(int,boolean,int)", "public int letterAt(int,int)", "public int count(int)",
        "public int done(int)");
    private static final String[] RULED_OUT = {"throw", "throws", "try", "catch", "synchronized", "assert", "import",
        "package", "protected", "equals", "hashCode", "toString", "Exact", "Object", "System", "Thread", "Random"};
    private static int wrong = 0;

    public static void main(String[] args) throws IOException {
        face();
        values();
        source();
        System.out.println(wrong == 0 ? "the face is as due" : wrong + " things are not as due");
        if (wrong != 0) System.exit(1);
    }

    private static void due(boolean fine, String what) {
        if (!fine) {
            wrong++;
            System.out.println(what);
        }
    }

    private static void face() {
        Set<String> seen = new TreeSet<>();
        for (Field f : TaskTurns.class.getDeclaredFields()) {
            if (!Modifier.isPrivate(f.getModifiers())) {
                seen.add(Modifier.toString(f.getModifiers()) + " " + f.getType() + " " + f.getName());
            }
            due(!Modifier.isStatic(f.getModifiers()) || Modifier.isFinal(f.getModifiers()), "not final: " + f);
        }
        for (Constructor<?> c : TaskTurns.class.getDeclaredConstructors()) seen.add(c.toGenericString());
        Set<String> publicNames = new TreeSet<>();
        for (Method m : TaskTurns.class.getDeclaredMethods()) {
            if (!Modifier.isPrivate(m.getModifiers())) {
                seen.add(m.toString().replace("TaskTurns.", ""));
                publicNames.add(m.getName());
            }
        }
        for (String member : FACE) due(seen.contains(member), "missing: " + member);
        for (String member : seen) due(FACE.contains(member), "not in the document: " + member);
        for (Method m : TaskTurns.class.getDeclaredMethods()) {
            due(!Modifier.isPrivate(m.getModifiers()) || !publicNames.contains(m.getName()), "a public one's name: " + m);
        }
        due(Modifier.isFinal(TaskTurns.class.getModifiers()), "the class is not final");
        for (Class<?> c : TaskTurns.class.getDeclaredClasses()) {
            due(Modifier.isStatic(c.getModifiers()) && !Modifier.isPublic(c.getModifiers()), "not static, or public: " + c);
        }
    }

    private static void values() {
        due(TaskTurns.BAD == -1, "BAD");
        due(TaskTurns.NO == -2, "NO");
        due(TaskTurns.FULL == -3, "FULL");
        due(TaskTurns.NONE == -4, "NONE");
    }

    private static void source() throws IOException {
        String text = Files.readString(Path.of("src/main/java/TaskTurns.java"));
        String code = text.replaceAll("(?s)/\\*.*?\\*/", " ").replaceAll("//[^\n]*", " ");
        for (String word : RULED_OUT) {
            due(!Pattern.compile("\\b" + word + "\\b").matcher(code).find(), "ruled out: " + word);
        }
    }
}
