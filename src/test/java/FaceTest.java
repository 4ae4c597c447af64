import java.lang.reflect.Constructor;
import java.lang.reflect.Field;
import java.lang.reflect.Method;
import java.lang.reflect.Modifier;
import java.util.Set;
import java.util.TreeSet;

/** The public face: what the document lists, and nothing else that another class could see. */
public final class FaceTest {
    private static final Set<String> FACE = Set.of(
            "public RangeRules()",
            "public int RangeRules.around(int)",
            "public void RangeRules.clear()",
            "public int RangeRules.size()",
            "public int RangeRules.down(int)",
            "public int RangeRules.up(int)",
            "public int RangeRules.work(int,int,int,int,int)",
            "public boolean RangeRules.negate(int,int)",
            "public int RangeRules.low()",
            "public int RangeRules.high()");

    public static void main(String[] args) {
        Due due = new Due();
        Set<String> seen = new TreeSet<>();
        for (Constructor<?> constructor : RangeRules.class.getDeclaredConstructors()) {
            see(seen, constructor.getModifiers(), constructor.toString());
        }
        for (Method method : RangeRules.class.getDeclaredMethods()) {
            see(seen, method.getModifiers(), method.toString());
        }
        for (Field field : RangeRules.class.getDeclaredFields()) {
            see(seen, field.getModifiers(), field.toString());
            if (Modifier.isStatic(field.getModifiers())) {
                due.answer(field + " is final", Modifier.isFinal(field.getModifiers()), true);
            }
        }
        int modifiers = RangeRules.class.getModifiers();
        due.answer("public and final", Modifier.isPublic(modifiers) && Modifier.isFinal(modifiers), true);
        due.answer("the face is " + seen, seen.equals(FACE), true);
        due.end();
    }

    private static void see(Set<String> seen, int modifiers, String member) {
        if (!Modifier.isPrivate(modifiers)) {
            seen.add(member);
        }
    }
}
