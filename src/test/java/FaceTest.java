import java.lang.reflect.Field;
import java.lang.reflect.Member;
import java.lang.reflect.Method;
import java.lang.reflect.Modifier;
import java.util.Arrays;
import java.util.List;
import java.util.TreeSet;

/** The public face of the document, and rules 1, 5 and 11 of LANGUAGE.md as far as reflection sees them. */
public final class FaceTest {
    private static final List<String> METHODS = List.of(
            "int propose(int, int)", "int begin(int, int)", "int deliver(int)", "boolean drop(int)",
            "boolean halt(int, boolean)", "int waiting()", "int lost()", "int message(int)", "int value(int)",
            "int round(int, int)", "int vote(int, int)", "int voteRound(int, int)", "int leads(int, int)",
            "int phase(int, int)", "int learned(int)", "int chosen(int)", "int votes(int, int, int)",
            "int size(int)");

    private static final Due DUE = new Due();

    public static void main(String[] args) throws NoSuchMethodException, NoSuchFieldException {
        Class<?> face = FastBallots.class;
        DUE.at("the face");
        DUE.is("public and final", face.getModifiers() == (Modifier.PUBLIC | Modifier.FINAL), true);
        DUE.is("one constructor", face.getDeclaredConstructors().length, 1);
        DUE.is("public", isPublic(face.getConstructor(int.class, int.class, int.class)), true);
        DUE.is("BAD is public, static and final", face.getField("BAD").getModifiers(),
                Modifier.PUBLIC | Modifier.STATIC | Modifier.FINAL);
        methods(face);
        for (Field field : face.getDeclaredFields()) {
            DUE.is(field + " is BAD or private", field.getName().equals("BAD") || isPrivate(field), true);
        }
        for (Class<?> inside : face.getDeclaredClasses()) {
            DUE.is(inside + " is static", Modifier.isStatic(inside.getModifiers()), true);
            DUE.is(inside + " is not of the face",
                    Modifier.isPublic(inside.getModifiers()) || Modifier.isProtected(inside.getModifiers()), false);
        }
        DUE.is("some twelve classes at most", face.getDeclaredClasses().length <= 12, true);
        fewParameters(face);
        staticFields(face);
        for (Class<?> inside : face.getDeclaredClasses()) {
            staticFields(inside);
            fewParameters(inside);
            DUE.is(inside + " has some twenty fields at most", inside.getDeclaredFields().length <= 20, true);
        }
        DUE.end();
    }

    private static boolean isPublic(Member member) {
        return Modifier.isPublic(member.getModifiers());
    }

    private static boolean isPrivate(Member member) {
        return Modifier.isPrivate(member.getModifiers());
    }

    private static String told(Method method) {
        String takes = Arrays.toString(method.getParameterTypes());
        return method.getReturnType() + " " + method.getName() + "(" + takes.substring(1, takes.length() - 1) + ")";
    }

    private static void methods(Class<?> face) {
        TreeSet<String> open = new TreeSet<>();
        TreeSet<String> names = new TreeSet<>();
        for (Method method : face.getDeclaredMethods()) {
            if (!isPrivate(method)) {
                DUE.is(told(method) + " is public", isPublic(method), true);
                open.add(told(method));
                names.add(method.getName());
            }
        }
        DUE.is(open + " are the document's methods", open.equals(new TreeSet<>(METHODS)), true);
        for (Method method : face.getDeclaredMethods()) {
            DUE.is(told(method) + " bears a name of the face", isPrivate(method) && names.contains(method.getName()),
                    false);
        }
    }

    private static void fewParameters(Class<?> owner) {
        for (Method method : owner.getDeclaredMethods()) {
            DUE.is(method + " takes seven parameters at most", method.getParameterCount() <= 7, true);
        }
    }

    private static void staticFields(Class<?> owner) {
        for (Field field : owner.getDeclaredFields()) {
            if (Modifier.isStatic(field.getModifiers())) {
                DUE.is(field + " is final", Modifier.isFinal(field.getModifiers()), true);
            }
        }
    }
}
