import java.lang.reflect.Field;
import java.lang.reflect.Method;
import java.lang.reflect.Modifier;
import java.util.TreeSet;

/** The public face: the constants and methods of the document, and nothing else that is not private. */
public final class FaceTest {
    private static final String[] METHODS = {
        "void open()", "boolean isOpen()", "int folder(int)", "int variable(int,int)",
        "boolean poke(int,long)", "int chunk(int,int,int,long,int)", "int part()",
        "int answerLength()", "int answer(int)", "int request()", "int queue(int)",
        "int parcels()", "int parcel(int)", "int size(int)"};

    public static void main(String[] args) {
        Check check = new Check("The public face");
        check.same("REFUSED", ChunkedNodes.REFUSED, -1);
        check.same("TAKEN", ChunkedNodes.TAKEN, 0);
        check.same("ANSWERED", ChunkedNodes.ANSWERED, 1);
        check.same("CLOSED", ChunkedNodes.CLOSED, 2);
        int kinds = ChunkedNodes.class.getModifiers();
        check.same("public final class", Modifier.isPublic(kinds) && Modifier.isFinal(kinds), true);
        check.same("constructors", ChunkedNodes.class.getDeclaredConstructors().length, 1);
        check.same("public constructors", ChunkedNodes.class.getConstructors().length, 1);
        methods(check);
        fields(check);
        for (Class<?> inside : ChunkedNodes.class.getDeclaredClasses()) {
            int m = inside.getModifiers();
            check.same(inside + " is static", Modifier.isStatic(m), true);
            check.same(inside + " is not public", Modifier.isPublic(m) || Modifier.isProtected(m), false);
        }
        check.end();
    }

    private static void methods(Check check) {
        TreeSet<String> due = new TreeSet<>(java.util.List.of(METHODS));
        TreeSet<String> got = new TreeSet<>();
        TreeSet<String> publicNames = new TreeSet<>();
        for (Method m : ChunkedNodes.class.getDeclaredMethods()) {
            if (Modifier.isPublic(m.getModifiers())) {
                publicNames.add(m.getName());
            }
        }
        for (Method m : ChunkedNodes.class.getDeclaredMethods()) {
            if (!Modifier.isPrivate(m.getModifiers())) {
                got.add(signature(m));
            } else {
                check.same("private " + m.getName(), publicNames.contains(m.getName()), false);
            }
        }
        check.same("methods " + got + " are " + due, got.equals(due), true);
    }

    private static String signature(Method m) {
        StringBuilder text = new StringBuilder(m.getReturnType() + " " + m.getName() + "(");
        for (Class<?> type : m.getParameterTypes()) {
            text.append(text.charAt(text.length() - 1) == '(' ? "" : ",").append(type);
        }
        return text.append(")").toString();
    }

    private static void fields(Check check) {
        TreeSet<String> due = new TreeSet<>(java.util.List.of("REFUSED", "TAKEN", "ANSWERED", "CLOSED"));
        TreeSet<String> got = new TreeSet<>();
        for (Field f : ChunkedNodes.class.getDeclaredFields()) {
            if (!Modifier.isPrivate(f.getModifiers())) {
                got.add(f.getName());
            }
            if (Modifier.isStatic(f.getModifiers())) {
                check.same(f.getName() + " is final", Modifier.isFinal(f.getModifiers()), true);
            }
        }
        check.same("fields " + got, got.equals(due), true);
    }
}
