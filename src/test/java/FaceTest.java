import java.lang.reflect.Constructor;
import java.lang.reflect.Field;
import java.lang.reflect.Method;
import java.lang.reflect.Modifier;
import java.util.Set;
import java.util.TreeSet;

/** The class shows the document's face and nothing else (LANGUAGE.md, rule 1). */
public final class FaceTest {
    private static final Set<String> FACE = Set.of(
            "public static final int NONE",
            "public SlotScreen()",
            "public void widen(int) throws IllegalArgumentException,IllegalStateException",
            "public void plug(int,int,int,int) throws IllegalArgumentException,IllegalStateException",
            "public boolean burn(int,int,int,int)",
            "public int read(int) throws IllegalArgumentException",
            "public void write(int,int) throws IllegalArgumentException",
            "public int far(int,int,int) throws IllegalArgumentException",
            "public int in(int)",
            "public boolean out(int,int)",
            "public int scan()",
            "public int pixel(int,int)",
            "public int video(int)",
            "public int chip(int)",
            "public int secondary(int)",
            "public boolean calls()");

    public static void main(String[] args) {
        Due due = new Due();
        due.is("NONE", SlotScreen.NONE, -1);
        due.is("public and final", Modifier.isPublic(SlotScreen.class.getModifiers())
                && Modifier.isFinal(SlotScreen.class.getModifiers()), true);
        Set<String> seen = new TreeSet<>();
        for (Field f : SlotScreen.class.getDeclaredFields()) {
            add(seen, f.getModifiers(), f.toGenericString());
        }
        for (Constructor<?> c : SlotScreen.class.getDeclaredConstructors()) {
            add(seen, c.getModifiers(), c.toGenericString());
        }
        Set<String> publicNames = new TreeSet<>();
        for (Method m : SlotScreen.class.getDeclaredMethods()) {
            add(seen, m.getModifiers(), m.toGenericString());
            if (Modifier.isPublic(m.getModifiers())) {
                publicNames.add(m.getName());
            }
        }
        for (String s : seen) {
            due.is("the document has " + s, FACE.contains(s), true);
        }
        for (String s : FACE) {
            due.is("the class has " + s, seen.contains(s), true);
        }
        for (Class<?> inside : SlotScreen.class.getDeclaredClasses()) {
            checkInside(due, inside, publicNames);
        }
        due.end();
    }

    private static void add(Set<String> seen, int modifiers, String text) {
        if (!Modifier.isPrivate(modifiers)) {
            seen.add(text.replace("SlotScreen.", "").replace("java.lang.", "").replace(", ", ","));
        }
    }

    private static void checkInside(Due due, Class<?> inside, Set<String> publicNames) {
        due.is(inside + " is static", Modifier.isStatic(inside.getModifiers()), true);
        due.is(inside + " is hidden", Modifier.isPublic(inside.getModifiers())
                || Modifier.isProtected(inside.getModifiers()), false);
        for (Method m : inside.getDeclaredMethods()) {
            due.is(m + " has a name of its own", publicNames.contains(m.getName()), false);
        }
    }
}
