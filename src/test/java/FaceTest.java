import java.lang.reflect.Constructor;
import java.lang.reflect.Field;
import java.lang.reflect.Method;
import java.lang.reflect.Modifier;
import java.util.ArrayList;
import java.util.Arrays;
import java.util.List;
import java.util.TreeSet;

/** The public face: just the members that the document names, with their throws clauses in its order. */
public final class FaceTest {
    private static final String INDEX = "IndexOutOfBoundsException";
    private static final String ARGUMENT = "IllegalArgumentException";
    private static final String STATE = "IllegalStateException";

    private static final String[] FACE = {
        "int mole(int) " + INDEX + " " + STATE,
        "int plan(int,int) " + INDEX + " " + ARGUMENT + " " + STATE,
        "int rest(int) " + INDEX,
        "int pass(int) " + ARGUMENT,
        "int root(int,int) " + INDEX + " " + ARGUMENT,
        "int trap(int,int) " + INDEX + " " + ARGUMENT + " " + STATE,
        "int dig(int) " + INDEX,
        "int rake(int) " + INDEX + " " + STATE,
        "int set(int) " + ARGUMENT,
        "int append(int) " + ARGUMENT + " " + STATE,
        "int clearBuffer()",
        "int firstError()",
        "int plans() " + ARGUMENT,
        "int undo() " + STATE,
        "int keep()",
        "int restore() " + STATE,
        "int tuft(int,int) " + INDEX + " " + ARGUMENT,
        "int moleOf(int,int) " + INDEX + " " + ARGUMENT,
        "int tunnel(int,int) " + INDEX + " " + ARGUMENT,
        "int cell(int,int) " + INDEX + " " + ARGUMENT,
        "int count(int) " + ARGUMENT,
        "int joined(int,int) " + INDEX,
        "int fewest(int,int) " + INDEX,
        "int ifDug(int,int) " + INDEX + " " + ARGUMENT,
        "int bestDig()",
        "int ifPassed(int,int) " + ARGUMENT,
        "int nextMound()",
        "double hollowShare()",
        "long digest()",
    };

    private static int wrong = 0;

    private static void check(String what, boolean right) {
        if (!right) {
            wrong++;
            System.out.println("wrong: " + what);
        }
    }

    private static String told(Method method) {
        List<String> parameters = new ArrayList<>();
        for (Class<?> type : method.getParameterTypes()) {
            parameters.add(type.getSimpleName());
        }
        StringBuilder text = new StringBuilder();
        text.append(method.getReturnType().getSimpleName()).append(' ').append(method.getName());
        text.append('(').append(String.join(",", parameters)).append(')');
        for (Class<?> type : method.getExceptionTypes()) {
            text.append(' ').append(type.getSimpleName());
        }
        return text.toString();
    }

    public static void main(String[] args) {
        check("the class is public and final",
                Modifier.isPublic(MolesLawn.class.getModifiers()) && Modifier.isFinal(MolesLawn.class.getModifiers()));
        TreeSet<String> due = new TreeSet<>(Arrays.asList(FACE));
        TreeSet<String> publicNames = new TreeSet<>();
        for (Method method : MolesLawn.class.getDeclaredMethods()) {
            if (Modifier.isPublic(method.getModifiers())) {
                check("not in the document: " + told(method), due.remove(told(method)));
                check(method + " is not static", !Modifier.isStatic(method.getModifiers()));
                publicNames.add(method.getName());
            } else {
                check(method + " is private", Modifier.isPrivate(method.getModifiers()) || method.isSynthetic());
            }
        }
        check("missing: " + due, due.isEmpty());
        for (Method method : MolesLawn.class.getDeclaredMethods()) {
            check(method + " bears no public name",
                    Modifier.isPublic(method.getModifiers()) || !publicNames.contains(method.getName()));
        }
        for (Field field : MolesLawn.class.getDeclaredFields()) {
            boolean none = field.getName().equals("NONE");
            check(field + " is private", none || Modifier.isPrivate(field.getModifiers()));
            check(field + " is final", !Modifier.isStatic(field.getModifiers()) || Modifier.isFinal(field.getModifiers()));
        }
        Constructor<?>[] constructors = MolesLawn.class.getDeclaredConstructors();
        check("one public constructor without parameters", constructors.length == 1
                && constructors[0].getParameterCount() == 0 && Modifier.isPublic(constructors[0].getModifiers()));
        check("NONE is -1", MolesLawn.NONE == -1);
        System.out.println(wrong == 0 ? "the face is as due" : wrong + " things of the face are not as due");
        if (wrong != 0) {
            System.exit(1);
        }
    }
}
