import java.lang.reflect.Constructor;
import java.lang.reflect.Field;
import java.lang.reflect.Method;
import java.lang.reflect.Modifier;
import java.util.ArrayList;
import java.util.Arrays;
import java.util.List;
import java.util.Set;
import java.util.TreeSet;

/** The public face is the document's, and nothing else can be seen from outside. */
final class FaceTest {
    public static void main(String[] args) {
        Checks checks = new Checks();
        checks.due("NONE", LotFlows.NONE, -1);
        checks.due("FULL", LotFlows.FULL, -2);
        checks.due("the class is public and final",
                LotFlows.class.getModifiers() == (Modifier.PUBLIC | Modifier.FINAL), true);
        checks.due("the members are the document's", seen().equals(new TreeSet<>(Arrays.asList(
                "NONE int", "FULL int", "new []", "lot int [long, long]", "thing int [int]",
                "flow void [int, int, long, long]", "left long [int]", "share long [int, int, int]",
                "back int [int, int]", "forward int [int, int]", "place boolean [int, int, int]",
                "recall int [int]", "recalled int [int, int]", "hold boolean [int, boolean]",
                "correct int [int, long, long]", "top int [int, int, long]", "whole boolean [int]",
                "loss long [int]"))), true);
        checks.due("the members are public, the constants static and final", modifiersAreDue(), true);
        checks.due("flow throws what the document names, nothing else is told to throw", thrown().equals(
                Arrays.asList("flow IndexOutOfBoundsException", "flow IllegalArgumentException",
                        "flow IllegalStateException")), true);
        checks.end();
    }

    private static boolean modifiersAreDue() {
        boolean due = LotFlows.class.getConstructors().length == 1;
        for (Field f : LotFlows.class.getFields()) {
            due &= f.getModifiers() == (Modifier.PUBLIC | Modifier.STATIC | Modifier.FINAL);
        }
        for (Method m : LotFlows.class.getDeclaredMethods()) {
            due &= Modifier.isPrivate(m.getModifiers()) || m.getModifiers() == Modifier.PUBLIC;
        }
        for (Class<?> c : LotFlows.class.getDeclaredClasses()) {
            due &= Modifier.isStatic(c.getModifiers()) && !Modifier.isPublic(c.getModifiers());
        }
        return due && LotFlows.class.getFields().length == 2;
    }

    private static List<String> thrown() {
        List<String> thrown = new ArrayList<>();
        for (Method m : LotFlows.class.getDeclaredMethods()) {
            for (Class<?> e : m.getExceptionTypes()) {
                thrown.add(m.getName() + " " + e.getSimpleName());
            }
        }
        return thrown;
    }

    private static Set<String> seen() {
        Set<String> seen = new TreeSet<>();
        for (Field f : LotFlows.class.getDeclaredFields()) {
            if (!Modifier.isPrivate(f.getModifiers())) {
                seen.add(f.getName() + " " + f.getType());
            }
        }
        for (Constructor<?> c : LotFlows.class.getDeclaredConstructors()) {
            if (!Modifier.isPrivate(c.getModifiers())) {
                seen.add("new " + Arrays.toString(c.getParameterTypes()));
            }
        }
        for (Method m : LotFlows.class.getDeclaredMethods()) {
            if (!Modifier.isPrivate(m.getModifiers())) {
                seen.add(m.getName() + " " + m.getReturnType() + " " + Arrays.toString(m.getParameterTypes()));
            }
        }
        return seen;
    }
}
