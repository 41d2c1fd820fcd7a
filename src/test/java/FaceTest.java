import java.lang.reflect.Constructor;
import java.lang.reflect.Field;
import java.lang.reflect.Method;
import java.lang.reflect.Modifier;
import java.util.Set;
import java.util.TreeSet;

/** The class shows the document's face and no other member. */
public final class FaceTest {
    private static final Set<String> METHODS = Set.of("int act(int)", "int put(int,int)", "int empty(int)",
        "int at(int,int)", "int about(int,int)", "int graft(int,int,int,int)", "int same(int,int)",
        "int rule(int,int)", "int nought(int)", "int unrule()", "int side(int,int,int)", "int matches(int,int)",
        "int step(int)", "int normal(int)", "long howMany(int)", "int overlaps()", "int overlap(int,int)",
        "int closes()", "long turned(int)", "long dual(int)", "int count(int)", "long digest()");
    private static final Set<String> CONSTANTS = Set.of("NONE", "BAD", "NO", "FULL", "SPENT");
    private static int wrong = 0;

    public static void main(String[] args) {
        Class<?> face = LeafTrees.class;
        check("the class is public and final", (face.getModifiers() & (Modifier.PUBLIC | Modifier.FINAL))
            == (Modifier.PUBLIC | Modifier.FINAL));
        checkMethods(face);
        checkFields(face);
        Constructor<?>[] made = face.getDeclaredConstructors();
        check("one public constructor without arguments",
            made.length == 1 && Modifier.isPublic(made[0].getModifiers()) && made[0].getParameterCount() == 0);
        for (Class<?> inside : face.getDeclaredClasses()) checkInside(inside);
        System.out.println(wrong == 0 ? "the face is as due" : wrong + " things are not as due");
        if (wrong != 0) System.exit(1);
    }

    private static void check(String what, boolean holds) {
        if (!holds) {
            wrong++;
            System.out.println("not so: " + what);
        }
    }

    private static void checkMethods(Class<?> face) {
        Set<String> seen = new TreeSet<>();
        for (Method m : face.getDeclaredMethods()) {
            if (Modifier.isPrivate(m.getModifiers())) {
                check(m.getName() + " is no public name", !isPublicName(m.getName()));
            } else {
                seen.add(told(m));
                check(m.getName() + " is public, and no more than that", m.getModifiers() == Modifier.PUBLIC);
            }
        }
        check("the methods are those of the document, not " + seen, seen.equals(METHODS));
    }

    private static String told(Method m) {
        StringBuilder text = new StringBuilder(m.getReturnType() + " " + m.getName() + "(");
        for (Class<?> type : m.getParameterTypes()) text.append(text.charAt(text.length() - 1) == '(' ? "" : ",").append(type);
        return text.append(")").toString();
    }

    private static boolean isPublicName(String name) {
        return METHODS.stream().anyMatch(m -> m.contains(" " + name + "("));
    }

    private static void checkFields(Class<?> face) {
        Set<String> seen = new TreeSet<>();
        for (Field f : face.getDeclaredFields()) {
            boolean fixed = Modifier.isFinal(f.getModifiers());
            if (Modifier.isStatic(f.getModifiers())) check(f.getName() + " is final", fixed);
            if (!Modifier.isPrivate(f.getModifiers())) {
                seen.add(f.getName());
                check(f.getName() + " is a public constant", fixed && Modifier.isPublic(f.getModifiers())
                    && Modifier.isStatic(f.getModifiers()) && f.getType() == int.class);
            }
        }
        check("the constants are those of the document, not " + seen, seen.equals(CONSTANTS));
        check("their values", LeafTrees.NONE == -1 && LeafTrees.BAD == -2 && LeafTrees.NO == -3
            && LeafTrees.FULL == -4 && LeafTrees.SPENT == -5);
    }

    private static void checkInside(Class<?> inside) {
        int open = Modifier.PUBLIC | Modifier.PROTECTED;
        check(inside.getName() + " is static", Modifier.isStatic(inside.getModifiers()));
        check(inside.getName() + " is not open", (inside.getModifiers() & open) == 0);
        for (Method m : inside.getDeclaredMethods()) {
            check(inside.getName() + "." + m.getName() + " is no public name", !isPublicName(m.getName()));
        }
        check(inside.getName() + " has some twenty fields at most", inside.getDeclaredFields().length <= 20);
    }
}
