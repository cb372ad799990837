import java.lang.reflect.Constructor;
import java.lang.reflect.Field;
import java.lang.reflect.Method;
import java.lang.reflect.Modifier;
import java.nio.file.Files;
import java.nio.file.Path;
import java.util.ArrayList;
import java.util.Arrays;
import java.util.List;
import java.util.Set;
import java.util.TreeSet;
import java.util.regex.Matcher;
import java.util.regex.Pattern;

/** The document's face, and what of LANGUAGE.md can be seen from outside. Takes the path of BellSeconds.java. */
public final class FaceTests {
    private static final String[] FACE = {
        "int write(int)", "int wipe()", "int fault()", "int tower()", "int bell(int,int)", "int bidder(int,int)",
        "int rings(int)", "int clashes(int,int)", "int let(int,int)", "int revoke(int)", "int move(int,int)",
        "int undo()", "int best(int)", "int bestOf(int)", "int beside()", "int price(int)", "int many()",
        "int room(int,int)", "int hands()", "int judge(int,long)", "int hear(int,int)", "int unhear()",
        "int fit(int)", "int likely(int,boolean)", "int unwanted()", "int sealed(int,int,int)", "long seed(long)",
        "int day(int)", "int keep(int)", "int again(int)", "int count(int)"};
    private static final String[] CONSTANTS = {"UNKNOWN", "OUTSIDE", "STATE", "FULL", "NONE"};
    private static int wrong = 0;

    private static void sure(boolean so, String what) {
        if (!so) {
            wrong++;
            System.out.println("not so: " + what);
        }
    }

    public static void main(String[] args) throws Exception {
        face();
        inside();
        words(args.length > 0 ? args[0] : "src/main/java/BellSeconds.java");
        System.out.println(wrong == 0 ? "the face is as due" : wrong + " things are not as due");
        if (wrong != 0) System.exit(1);
    }

    private static boolean isOpen(int modifiers) {
        return !Modifier.isPrivate(modifiers);
    }

    private static void face() {
        Class<?> c = BellSeconds.class;
        sure(Modifier.isPublic(c.getModifiers()) && Modifier.isFinal(c.getModifiers()), "public and final");
        Set<String> methods = new TreeSet<>(), names = new TreeSet<>();
        for (Method m : c.getDeclaredMethods()) {
            if (!isOpen(m.getModifiers()) || m.isSynthetic()) continue;
            sure(Modifier.isPublic(m.getModifiers()) && !Modifier.isStatic(m.getModifiers()), m + " is public");
            List<String> types = new ArrayList<>();
            for (Class<?> p : m.getParameterTypes()) types.add(p.getName());
            methods.add(m.getReturnType().getName() + " " + m.getName() + "(" + String.join(",", types) + ")");
            names.add(m.getName());
        }
        sure(methods.equals(new TreeSet<>(Arrays.asList(FACE))), "the methods of the face: " + methods);
        for (Method m : c.getDeclaredMethods()) {
            sure(isOpen(m.getModifiers()) || !names.contains(m.getName()), m + " bears a public name");
        }
        Set<String> constants = new TreeSet<>();
        for (Field f : c.getDeclaredFields()) if (isOpen(f.getModifiers())) constants.add(f.getName());
        sure(constants.equals(new TreeSet<>(Arrays.asList(CONSTANTS))), "the constants of the face: " + constants);
        Constructor<?>[] made = c.getDeclaredConstructors();
        sure(made.length == 1 && made[0].getParameterCount() == 0, "one constructor");
        int[] values = {BellSeconds.UNKNOWN, BellSeconds.OUTSIDE, BellSeconds.STATE, BellSeconds.FULL, BellSeconds.NONE};
        sure(Arrays.equals(values, new int[] {-1, -2, -3, -4, -9}), "the constants' values");
    }

    private static void inside() {
        Class<?>[] inner = BellSeconds.class.getDeclaredClasses();
        sure(inner.length <= 12, "at most twelve classes");
        List<Class<?>> all = new ArrayList<>(Arrays.asList(inner));
        all.add(BellSeconds.class);
        for (Class<?> c : all) {
            sure(c == BellSeconds.class || Modifier.isStatic(c.getModifiers()), c + " is static");
            sure(c == BellSeconds.class || !Modifier.isPublic(c.getModifiers()), c + " is not public");
            int fields = 0;
            for (Field f : c.getDeclaredFields()) {
                sure(!Modifier.isStatic(f.getModifiers()) || Modifier.isFinal(f.getModifiers()), f + " is final");
                fields += Modifier.isStatic(f.getModifiers()) ? 0 : 1;
            }
            sure(fields <= 20, c + " has at most twenty fields");
            for (Method m : c.getDeclaredMethods()) sure(m.getParameterCount() <= 7, m + " takes at most seven");
        }
    }

    /** Comments and texts set aside. */
    private static void words(String path) throws Exception {
        String code = Files.readString(Path.of(path))
                .replaceAll("(?s)/\\*.*?\\*/", " ").replaceAll("//[^\n]*", " ").replaceAll("\"[^\"\n]*\"", "\"\"");
        String[] never = {"throw", "try", "catch", "finally", "synchronized", "assert", "import", "package",
            "Exception", "Error", "volatile", "transient", "native", "var", "Object", "Random", "Thread", "hashCode"};
        for (String word : never) {
            sure(!Pattern.compile("\\b" + word + "\\b").matcher(code).find(), "no '" + word + "' in the program");
        }
        sure(!code.contains("->") && !code.contains("::"), "no lambda, no method reference");
        sure(!Pattern.compile("\\bMath\\.\\w*Exact").matcher(code).find(), "no Math..Exact");
        Matcher library = Pattern.compile("\\b(System|Math|Integer|Long|Arrays|String)\\.(\\w+)").matcher(code);
        Set<String> allowed = new TreeSet<>(Arrays.asList("Math.abs", "Math.min", "Math.max", "Integer.bitCount"));
        while (library.find()) sure(allowed.contains(library.group()), library.group() + " stands in LANGUAGE.md");
        shortMethods(code);
    }

    /** A method is what stands between a line of its head and the first closing brace of the same indent. */
    private static void shortMethods(String code) {
        String[] lines = code.split("\n", -1);
        for (int i = 0; i < lines.length; i++) {
            if (!lines[i].matches("( {4}| {8})\\S.*\\) \\{") || lines[i].matches(" *(if|for|while|switch|\\}).*")) continue;
            String indent = lines[i].substring(0, lines[i].indexOf(lines[i].trim()));
            int end = i;
            while (end < lines.length && !lines[end].equals(indent + "}")) end++;
            sure(end - i <= 60, "short: " + lines[i].trim());
        }
    }
}
