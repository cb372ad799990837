import java.lang.reflect.Constructor;
import java.lang.reflect.Field;
import java.lang.reflect.Method;
import java.lang.reflect.Modifier;
import java.util.ArrayList;
import java.util.Arrays;
import java.util.List;
import java.util.Set;
import java.util.TreeSet;

/** The document's face: its constants, its constructor, its methods, and nothing else that can be seen from outside. */
public final class FaceTests {
    private static final String[] FACE = {
        "int write(int)", "int wipe()", "int fault()", "int tower()", "int bell(int,int)", "int bidder(int,int)",
        "int rings(int)", "int clashes(int,int)", "int let(int,int)", "int revoke(int)", "int move(int,int)",
        "int undo()", "int best(int)", "int bestOf(int)", "int beside()", "int price(int)", "int many()",
        "int room(int,int)", "int hands()", "int judge(int,long)", "int hear(int,int)", "int unhear()",
        "int fit(int)", "int likely(int,boolean)", "int unwanted()", "int sealed(int,int,int)", "long seed(long)",
        "int day(int)", "int keep(int)", "int again(int)", "int count(int)"};
    private static final String[] CONSTANTS = {"UNKNOWN", "OUTSIDE", "STATE", "FULL", "NONE"};
    private static int wrong = 0;

    private static void sure(boolean so, String what) {
        if (!so) {
            wrong++;
            System.out.println("not so: " + what);
        }
    }

    public static void main(String[] args) {
        face();
        System.out.println(wrong == 0 ? "the face is as due" : wrong + " things are not as due");
        if (wrong != 0) System.exit(1);
    }

    private static boolean isOpen(int modifiers) {
        return !Modifier.isPrivate(modifiers);
    }

    private static void face() {
        Class<?> c = BellSeconds.class;
        sure(Modifier.isPublic(c.getModifiers()) && Modifier.isFinal(c.getModifiers()), "public and final");
        Set<String> methods = new TreeSet<>(), names = new TreeSet<>();
        for (Method m : c.getDeclaredMethods()) {
            if (!isOpen(m.getModifiers()) || m.isSynthetic()) continue;
            sure(Modifier.isPublic(m.getModifiers()) && !Modifier.isStatic(m.getModifiers()), m + " is public");
            List<String> types = new ArrayList<>();
            for (Class<?> p : m.getParameterTypes()) types.add(p.getName());
            methods.add(m.getReturnType().getName() + " " + m.getName() + "(" + String.join(",", types) + ")");
            names.add(m.getName());
        }
        sure(methods.equals(new TreeSet<>(Arrays.asList(FACE))), "the methods of the face: " + methods);
        for (Method m : c.getDeclaredMethods()) {
            sure(isOpen(m.getModifiers()) || !names.contains(m.getName()), m + " bears a public name");
        }
        Set<String> constants = new TreeSet<>();
        for (Field f : c.getDeclaredFields()) if (isOpen(f.getModifiers())) constants.add(f.getName());
        sure(constants.equals(new TreeSet<>(Arrays.asList(CONSTANTS))), "the constants of the face: " + constants);
        Constructor<?>[] made = c.getDeclaredConstructors();
        sure(made.length == 1 && made[0].getParameterCount() == 0, "one constructor");
        int[] values = {BellSeconds.UNKNOWN, BellSeconds.OUTSIDE, BellSeconds.STATE, BellSeconds.FULL, BellSeconds.NONE};
        sure(Arrays.equals(values, new int[] {-1, -2, -3, -4, -9}), "the constants' values");
    }
}
