import java.lang.reflect.Constructor;
import java.lang.reflect.Field;
import java.lang.reflect.Method;
import java.lang.reflect.Modifier;
import java.util.Set;
import java.util.TreeSet;

/** The class shows the document's face and nothing else. */
public final class FaceTest {
    private static final Set<String> FACE = Set.of(
        "public static final int BAD", "public static final int MISSING",
        "public static final int FULL", "public static final int EMPTY",
        "public YardHolds()",
        "public int YardHolds.lay(int,int)", "public int YardHolds.lift(int)",
        "public int YardHolds.couple(int,int)", "public int YardHolds.uncouple(int)",
        "public int YardHolds.shunt(int,int,int)", "public int YardHolds.sweep(int,int,int)",
        "public int YardHolds.tour(long,int)", "public int YardHolds.chain(long,int)",
        "public int YardHolds.survey(long,int)", "public int YardHolds.turn(int)",
        "public int YardHolds.swap(int,int)", "public int YardHolds.wagon(int,int)",
        "public int YardHolds.told(int)");

    public static void main(String[] args) {
        Set<String> seen = new TreeSet<>();
        for (Field f : YardHolds.class.getDeclaredFields()) {
            if (!Modifier.isPrivate(f.getModifiers())) {
                seen.add(Modifier.toString(f.getModifiers()) + " " + f.getType().getName() + " " + f.getName());
            }
        }
        for (Constructor<?> c : YardHolds.class.getDeclaredConstructors()) {
            if (!Modifier.isPrivate(c.getModifiers())) seen.add(c.toString());
        }
        Set<String> publicNames = new TreeSet<>();
        for (Method m : YardHolds.class.getDeclaredMethods()) {
            if (Modifier.isPrivate(m.getModifiers())) continue;
            seen.add(m.toString());
            publicNames.add(m.getName());
        }
        // LANGUAGE.md, rule 1: no private method bears the name of a public one.
        for (Method m : YardHolds.class.getDeclaredMethods()) {
            if (Modifier.isPrivate(m.getModifiers()) && publicNames.contains(m.getName())) seen.add(m.toString());
        }
        int modifiers = YardHolds.class.getModifiers();
        boolean well = seen.equals(new TreeSet<>(FACE)) && Modifier.isFinal(modifiers) && Modifier.isPublic(modifiers);
        System.out.println(well ? "the face is as told" : "the face is " + Modifier.toString(modifiers) + " class: " + seen);
        if (!well) System.exit(1);
    }
}
