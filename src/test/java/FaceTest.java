import java.lang.reflect.Constructor;
import java.lang.reflect.Field;
import java.lang.reflect.Method;
import java.lang.reflect.Modifier;
import java.util.Set;
import java.util.TreeSet;

/** The public face: what the document lists, and nothing else that another class could see (rules 1, 2, 5, 11). */
public final class FaceTest {
    private static final Set<String> FACE = Set.of(
            "public RangeRules()",
            "public int RangeRules.around(int)",
            "public void RangeRules.clear()",
            "public int RangeRules.size()",
            "public int RangeRules.down(int)",
            "public int RangeRules.up(int)",
            "public int RangeRules.work(int,int,int,int,int)",
            "public boolean RangeRules.negate(int,int)",
            "public int RangeRules.low()",
            "public int RangeRules.high()");

    public static void main(String[] args) {
        Due due = new Due();
        Set<String> seen = new TreeSet<>();
        for (Constructor<?> constructor : RangeRules.class.getDeclaredConstructors()) {
            see(seen, constructor.getModifiers(), constructor.toString());
        }
        for (Method method : RangeRules.class.getDeclaredMethods()) {
            see(seen, method.getModifiers(), method.toString());
        }
        for (Field field : RangeRules.class.getDeclaredFields()) {
            see(seen, field.getModifiers(), field.toString());
            if (Modifier.isStatic(field.getModifiers())) {
                due.answer(field + " is final", Modifier.isFinal(field.getModifiers()), true);
            }
        }
        int modifiers = RangeRules.class.getModifiers();
        due.answer("public and final", Modifier.isPublic(modifiers) && Modifier.isFinal(modifiers), true);
        due.answer("the face is " + seen, seen.equals(FACE), true);
        privateMethods(due);
        classesInside(due);
        due.end();
    }

    private static void privateMethods(Due due) {
        Set<String> names = new TreeSet<>();
        for (Method method : RangeRules.class.getMethods()) {
            names.add(method.getName());
        }
        for (Method method : RangeRules.class.getDeclaredMethods()) {
            due.answer(method + " takes at most seven", method.getParameterCount() <= 7, true);
            if (Modifier.isPrivate(method.getModifiers())) {
                due.answer(method + " bears a public one's name", names.contains(method.getName()), false);
            }
        }
    }

    private static void classesInside(Due due) {
        for (Class<?> inside : RangeRules.class.getDeclaredClasses()) {
            int modifiers = inside.getModifiers();
            due.answer(inside + " is static", Modifier.isStatic(modifiers), true);
            due.answer(inside + " is hidden", Modifier.isPublic(modifiers) || Modifier.isProtected(modifiers), false);
        }
    }

    private static void see(Set<String> seen, int modifiers, String member) {
        if (!Modifier.isPrivate(modifiers)) {
            seen.add(member);
        }
    }
}
