import java.lang.reflect.Constructor;
import java.lang.reflect.Field;
import java.lang.reflect.Method;
import java.lang.reflect.Modifier;
import java.util.Arrays;
import java.util.HashSet;
import java.util.Set;
import java.util.TreeSet;

/**
 * The face is the document's, and nothing more of the class can be seen; and
 * what LANGUAGE.md says of hidden members (rules 1 and 5).
 */
public final class FaceTest {
    private static final String[] FACE = {
        "public final class CoefTurns",
        "public static final int CoefTurns.NONE",
        "public CoefTurns(int,int)",
        "public void CoefTurns.put(int,int,int,int) "
                + "throws java.lang.IndexOutOfBoundsException,java.lang.IllegalArgumentException",
        "public void CoefTurns.fill(int)",
        "public void CoefTurns.transpose()",
        "public void CoefTurns.mirror()",
        "public void CoefTurns.flip()",
        "public void CoefTurns.turn(int)",
        "public boolean CoefTurns.crop(int,int,int,int)",
        "public boolean CoefTurns.swap(int,int,int,int)",
        "public void CoefTurns.keep()",
        "public void CoefTurns.restore()",
        "public int CoefTurns.differ()",
        "public int CoefTurns.at(int,int,int)",
        "public long CoefTurns.four(int,int,int,int)",
        "public long CoefTurns.sum(int) throws java.lang.IndexOutOfBoundsException",
        "public int CoefTurns.look(int)",
    };

    public static void main(String[] args) {
        Due due = new Due();
        Set<String> want = new TreeSet<>(Arrays.asList(FACE));
        Set<String> got = seen();
        for (String member : want) {
            due.is("has " + member, got.contains(member), true);
        }
        for (String member : got) {
            due.is("the document has " + member, want.contains(member), true);
        }
        namesAreApart(due);
        staticFieldsAreFinal(due);
        due.end();
    }

    private static void namesAreApart(Due due) {
        Set<String> publicNames = new HashSet<>();
        for (Method method : CoefTurns.class.getMethods()) {
            publicNames.add(method.getName());
        }
        for (Method method : CoefTurns.class.getDeclaredMethods()) {
            if (Modifier.isPrivate(method.getModifiers())) {
                String asked = "private " + method.getName() + " bears the name of a public method";
                due.is(asked, publicNames.contains(method.getName()), false);
            }
        }
    }

    private static void staticFieldsAreFinal(Due due) {
        for (Field field : CoefTurns.class.getDeclaredFields()) {
            if (Modifier.isStatic(field.getModifiers())) {
                due.is("static " + field.getName() + " is final", Modifier.isFinal(field.getModifiers()), true);
            }
        }
    }

    private static Set<String> seen() {
        Set<String> seen = new TreeSet<>();
        seen.add(CoefTurns.class.toGenericString());
        for (Field field : CoefTurns.class.getDeclaredFields()) {
            if (!Modifier.isPrivate(field.getModifiers())) {
                seen.add(field.toString());
            }
        }
        for (Constructor<?> constructor : CoefTurns.class.getDeclaredConstructors()) {
            if (!Modifier.isPrivate(constructor.getModifiers())) {
                seen.add(constructor.toString());
            }
        }
        for (Method method : CoefTurns.class.getDeclaredMethods()) {
            if (!Modifier.isPrivate(method.getModifiers())) {
                seen.add(method.toString());
            }
        }
        return seen;
    }
}
