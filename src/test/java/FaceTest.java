import java.lang.reflect.Constructor;
import java.lang.reflect.Field;
import java.lang.reflect.Method;
import java.lang.reflect.Modifier;
import java.nio.file.Files;
import java.nio.file.Path;
import java.util.Set;
import java.util.TreeSet;
import java.util.regex.Matcher;
import java.util.regex.Pattern;

/** The document's face, and those rules of LANGUAGE.md that can be seen without reading the code as a whole. */
public final class FaceTest {
    private static final Check check = new Check("FaceTest");
    private static final Path SOURCE = Path.of("src/main/java/HumpYard.java");
    private static final Set<String> FACE = Set.of(
        "int feed(int,int,int,int,int)", "int yard()", "int codes()", "int set(int,int,int)", "int room(int,int)",
        "int brand(int)", "int wagon(int,int)", "int wanted(int,int)", "int track(int,int)", "int chains(int)",
        "int fewest(int)", "int presort()", "int right(int)", "int bounded(int)", "int bind()", "long mean(int)",
        "int hump()", "int pull(int)", "int clear()", "int out(int,int)", "int wrong(int)", "int replay(int)",
        "int spell()", "int paper(int)", "int elsewhere(int)", "int drawn(int,int)", "long odds(int,int,int,int)",
        "int seen(int,int,int)", "int judge(int)", "int list(int,int)", "int put(int,int,int)", "long get(int,int)",
        "int lay(int,int,int,int)", "int image()", "int undo()", "int count(int)");
    private static final Set<String> CONSTANTS = Set.of("NONE", "BAD", "STATE", "FULL", "NOT", "NO");

    public static void main(String[] args) throws Exception {
        face();
        classesInside();
        words();
        methodLengths();
        check.end();
    }

    private static void must(boolean holds, String text) {
        if (holds) {
            check.passed();
        } else {
            check.fail(text);
        }
    }

    private static String textOf(Method m) {
        StringBuilder text = new StringBuilder(m.getReturnType() + " " + m.getName() + "(");
        for (int i = 0; i < m.getParameterCount(); i++) {
            text.append(i > 0 ? "," : "").append(m.getParameterTypes()[i]);
        }
        return text.append(")").toString();
    }

    private static void face() {
        Set<String> found = new TreeSet<>();
        for (Method m : HumpYard.class.getDeclaredMethods()) {
            if (Modifier.isPublic(m.getModifiers())) {
                found.add(textOf(m));
            } else {
                must(Modifier.isPrivate(m.getModifiers()), "neither public nor private: " + textOf(m));
            }
        }
        must(found.equals(new TreeSet<>(FACE)), "the public methods are " + found);
        Set<String> constants = new TreeSet<>();
        for (Field f : HumpYard.class.getDeclaredFields()) {
            if (!Modifier.isPrivate(f.getModifiers())) {
                constants.add(f.getName());
            }
        }
        must(constants.equals(new TreeSet<>(CONSTANTS)), "the public constants are " + constants);
        Constructor<?>[] made = HumpYard.class.getDeclaredConstructors();
        must(made.length == 1 && made[0].getParameterCount() == 0, "one constructor, without parameters");
        must(Modifier.isPublic(HumpYard.class.getModifiers()) && Modifier.isFinal(HumpYard.class.getModifiers()),
            "the class is public and final");
    }

    private static void classesInside() {
        must(HumpYard.class.getDeclaredClasses().length <= 11, "at most some twelve classes");
        for (Class<?> inside : HumpYard.class.getDeclaredClasses()) {
            must(Modifier.isStatic(inside.getModifiers()), inside + " is static");
            must(inside.getDeclaredFields().length <= 20, inside + " has at most some twenty fields");
            for (Method m : inside.getDeclaredMethods()) {
                must(FACE.stream().noneMatch(f -> f.contains(" " + m.getName() + "(")),
                    inside + " has a method named as a public one: " + m.getName());
                must(m.getParameterCount() <= 7, m + " has at most seven parameters");
            }
            for (Field f : inside.getDeclaredFields()) {
                must(!Modifier.isStatic(f.getModifiers()) || Modifier.isFinal(f.getModifiers()), f + " is final");
            }
        }
    }

    private static String code() throws Exception {
        return Files.readString(SOURCE).replaceAll("(?s)/\\*.*?\\*/", "").replaceAll("//[^\n]*", "");
    }

    private static void words() throws Exception {
        String code = code();
        String[] refused = {"\\bthrow\\b", "\\btry\\b", "\\bcatch\\b", "\\bsynchronized\\b", "\\bassert\\b", "->", "::",
            "\\bprotected\\b", "\\bpackage\\b", "\\bimport\\b", "\\bSystem\\.(?!arraycopy)", "Exact\\b", "\\bdouble\\b",
            "\\bfloat\\b", "\\bThread\\b", "\\bObject\\b", "\\bvar\\b", "\\binstanceof\\b", "\\bstatic \\{", "Override"};
        for (String word : refused) {
            must(!Pattern.compile(word).matcher(code).find(), "the source has " + word);
        }
        must(code.chars().allMatch(c -> c < 128), "the source has only signs below 128");
        // what a run makes is counted: all is made with the object, nothing by a call
        for (String line : code.split("\n")) {
            must(!line.contains(" new ") || line.contains(" final "), "made outside a field: " + line.trim());
        }
    }

    private static void methodLengths() throws Exception {
        Matcher start = Pattern.compile("\n(    |        )\\w[^\n;=]*\\) \\{\n(.*?)\n\\1\\}", Pattern.DOTALL).matcher(code());
        int methods = 0;
        while (start.find()) {
            methods++;
            int lines = start.group(2).split("\n").length;
            must(lines <= 60, "a method of " + lines + " lines: " + start.group().trim().split("\n")[0]);
        }
        must(methods > 50, "methods are found: " + methods);
    }
}
