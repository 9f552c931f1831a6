import java.lang.reflect.Constructor;
import java.lang.reflect.Field;
import java.lang.reflect.Method;
import java.lang.reflect.Modifier;
import java.util.Set;
import java.util.TreeSet;

/** The public face is the document's, and nothing else can be seen from outside. */
public final class Face {
    private static final Set<String> DUE = Set.of(
            "int given()", "boolean literal(int,int,boolean)", "boolean collect(int,boolean)",
            "int learn()", "int split(int)", "int answer()", "boolean value(int,int,boolean)",
            "int check()", "int shorten()", "int turn(int,int)", "int lines()", "int kind(int)",
            "int member(int,int)", "int text(int)", "boolean unit(int)", "int read()");

    public static void main(String[] args) {
        boolean good = finalAndPublic() & methodsAreDue() & constructorIsDue() & fieldsAreHidden();
        System.out.println(good ? "the face is as due" : "the face is not as due");
        if (!good) {
            System.exit(1);
        }
    }

    private static boolean finalAndPublic() {
        int modifiers = ProofLines.class.getModifiers();
        return Modifier.isPublic(modifiers) && Modifier.isFinal(modifiers);
    }

    private static boolean methodsAreDue() {
        Set<String> seen = new TreeSet<>();
        Set<String> names = new TreeSet<>();
        boolean good = true;
        for (Method m : ProofLines.class.getDeclaredMethods()) {
            if (!Modifier.isPrivate(m.getModifiers())) {
                names.add(m.getName());
                seen.add(m.getReturnType() + " " + m.getName() + parameters(m.getParameterTypes()));
                good &= Modifier.isPublic(m.getModifiers()) && !Modifier.isStatic(m.getModifiers());
            }
        }
        for (Method m : ProofLines.class.getDeclaredMethods()) {
            good &= !Modifier.isPrivate(m.getModifiers()) || !names.contains(m.getName());
        }
        if (!seen.equals(new TreeSet<>(DUE))) {
            System.out.println("methods seen: " + seen);
            return false;
        }
        return good;
    }

    private static boolean constructorIsDue() {
        Constructor<?>[] all = ProofLines.class.getDeclaredConstructors();
        return all.length == 1 && Modifier.isPublic(all[0].getModifiers())
                && parameters(all[0].getParameterTypes()).equals("(int)");
    }

    private static boolean fieldsAreHidden() {
        for (Field f : ProofLines.class.getDeclaredFields()) {
            if (!Modifier.isPrivate(f.getModifiers())) {
                System.out.println("not private: " + f);
                return false;
            }
        }
        return true;
    }

    private static String parameters(Class<?>[] types) {
        StringBuilder all = new StringBuilder("(");
        for (Class<?> type : types) {
            all.append(all.length() > 1 ? "," : "").append(type);
        }
        return all.append(')').toString();
    }
}
