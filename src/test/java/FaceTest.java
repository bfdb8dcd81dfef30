import java.lang.reflect.Constructor;
import java.lang.reflect.Field;
import java.lang.reflect.Method;
import java.lang.reflect.Modifier;
import java.util.Arrays;
import java.util.List;
import java.util.Set;
import java.util.TreeSet;

/** The class shows the document's face and nothing more. */
public final class FaceTest {
    private static final Set<String> FACE = new TreeSet<>(List.of(
            "public BlockRows()",
            "public boolean BlockRows.heat(int,boolean)",
            "public boolean BlockRows.size(int)",
            "public int BlockRows.chain(int)",
            "public int BlockRows.length()",
            "public int BlockRows.row(int)",
            "public long BlockRows.count(int,int)",
            "public long BlockRows.way(int,int,int,boolean)",
            "public long BlockRows.weight(int)"));

    private static Set<String> seen() {
        Set<String> seen = new TreeSet<>();
        for (Constructor<?> c : BlockRows.class.getDeclaredConstructors()) {
            seen.add(c.toString());
        }
        for (Method m : BlockRows.class.getDeclaredMethods()) {
            if (!Modifier.isPrivate(m.getModifiers()) && !m.isSynthetic()) {
                seen.add(m.toString());
            }
        }
        for (Field f : BlockRows.class.getDeclaredFields()) {
            if (!Modifier.isPrivate(f.getModifiers()) && !f.isSynthetic()) {
                seen.add(f.toString());
            }
        }
        return seen;
    }

    private static boolean isPublicAndFinal() {
        int modifiers = BlockRows.class.getModifiers();
        return Modifier.isPublic(modifiers) && Modifier.isFinal(modifiers);
    }

    private static boolean insideIsStaticAndNotPublic() {
        return Arrays.stream(BlockRows.class.getDeclaredClasses())
                .mapToInt(Class::getModifiers)
                .allMatch(m -> Modifier.isStatic(m) && !Modifier.isPublic(m) && !Modifier.isProtected(m));
    }

    // Rule 1 of LANGUAGE.md: no private method bears the name of a public one.
    private static boolean namesAreApart() {
        Set<String> open = new TreeSet<>();
        Set<String> hidden = new TreeSet<>();
        for (Method m : BlockRows.class.getDeclaredMethods()) {
            (Modifier.isPublic(m.getModifiers()) ? open : hidden).add(m.getName());
        }
        hidden.retainAll(open);
        return hidden.isEmpty();
    }

    public static void main(String[] args) {
        boolean right = true;
        if (!seen().equals(FACE)) {
            System.out.println("the face is " + seen() + ", due is " + FACE);
            right = false;
        }
        if (!isPublicAndFinal()) {
            System.out.println("the class is not public and final");
            right = false;
        }
        if (!insideIsStaticAndNotPublic()) {
            System.out.println("a class inside is not static, or is public or protected");
            right = false;
        }
        if (!namesAreApart()) {
            System.out.println("a private method bears the name of a public one");
            right = false;
        }
        if (!right) {
            System.exit(1);
        }
        System.out.println("the face is as due");
    }
}
