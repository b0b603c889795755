import java.lang.reflect.Field;
import java.lang.reflect.Method;
import java.lang.reflect.Modifier;
import java.util.Arrays;
import java.util.TreeSet;

/** The public face is the document's and no more. */
public final class FaceTest {
    private static final String[] METHODS = {
        "int feed(int,int,int,int,int)", "int version(int,int)", "int told(int,int)", "int check(int)",
        "int cost(int,int)", "int step(int,int,int,int)", "int melt(int,int,int)", "int melted(int,int)",
        "int room(int,int,int)", "boolean install(int)", "int update(int,int)", "int write(int)",
        "boolean cut()", "int on()", "int device(int)", "boolean fleet(int,int)",
        "boolean hold(int,int,boolean)", "int sent()", "int best(int,int)"};

    public static void main(String[] args) {
        TreeSet<String> found = new TreeSet<>();
        for (Method method : PatchBench.class.getDeclaredMethods()) {
            if (!Modifier.isPrivate(method.getModifiers())) {
                found.add(signature(method));
            }
        }
        Due.yes("methods " + found, found.equals(new TreeSet<>(Arrays.asList(METHODS))));
        for (Field field : PatchBench.class.getDeclaredFields()) {
            boolean isNone = field.getName().equals("NONE");
            Due.yes("field " + field, isNone == !Modifier.isPrivate(field.getModifiers()));
            Due.yes("final " + field, Modifier.isFinal(field.getModifiers()));
        }
        Due.yes("a public final class", Modifier.isPublic(PatchBench.class.getModifiers())
            && Modifier.isFinal(PatchBench.class.getModifiers()));
        Due.same("public constructors", PatchBench.class.getConstructors().length, 1);
        Due.same("NONE", PatchBench.NONE, -1);
        for (Class<?> inside : PatchBench.class.getDeclaredClasses()) {
            Due.yes("static " + inside, Modifier.isStatic(inside.getModifiers()));
        }
        Due.end();
    }

    private static String signature(Method method) {
        StringBuilder text = new StringBuilder(method.getReturnType() + " " + method.getName() + "(");
        for (Class<?> type : method.getParameterTypes()) {
            text.append(text.charAt(text.length() - 1) == '(' ? "" : ",").append(type);
        }
        return text.append(')').toString();
    }
}
