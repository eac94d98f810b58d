import java.lang.reflect.Constructor;
import java.lang.reflect.Field;
import java.lang.reflect.Method;
import java.lang.reflect.Modifier;
import java.util.Set;
import java.util.TreeSet;

/** The public face is that of the document, and nothing else of the class can be seen. */
public final class FaceTest {
    private static final Set<String> DUE = Set.of(
            "int rain(int,int,int)", "long volume(int,int,int)", "int by(int,int,int)",
            "int outflow(int,int,long)", "int level(int,int)", "int area(int)", "long content(int)",
            "int fill(long)", "int culvert(int,int,int,int)", "boolean unit(int)", "int states()",
            "int state(int,int,int,int)", "int head(int,int,int,int)", "int day(long)",
            "int run(long,long)", "long behind(int,int)", "long room(long,int)", "int way(int)",
            "int stops()", "int count(int)");

    public static void main(String[] args) throws ReflectiveOperationException {
        Check check = new Check("FaceTest");
        Class<?> face = BasinSizes.class;
        check.due("public final", face.getModifiers(), Modifier.PUBLIC | Modifier.FINAL);
        check.due("a class of its own", face.getSuperclass() == Object.class && face.getInterfaces().length == 0, true);
        check.due("without a package", face.getPackageName().isEmpty(), true);

        Set<String> seen = new TreeSet<>();
        for (Method m : face.getDeclaredMethods()) {
            if (!Modifier.isPrivate(m.getModifiers()) && !m.isSynthetic()) {
                check.due("public and of an object: " + m.getName(), m.getModifiers(), Modifier.PUBLIC);
                seen.add(text(m));
            }
        }
        check.due("the methods " + seen, seen.equals(DUE), true);

        int fields = 0;
        for (Field f : face.getDeclaredFields()) {
            if (!Modifier.isPrivate(f.getModifiers())) {
                fields++;
                check.due("only BAD is seen, not " + f.getName(), f.getName().equals("BAD"), true);
                check.due("modifiers of " + f.getName(), f.getModifiers(),
                        Modifier.PUBLIC | Modifier.STATIC | Modifier.FINAL);
                check.due("BAD is an int", f.getType() == int.class, true);
                check.due("BAD", f.getInt(null), -1);
            }
        }
        check.due("one constant", fields, 1);

        Constructor<?>[] constructors = face.getDeclaredConstructors();
        check.due("one constructor", constructors.length, 1);
        check.due("it is public", constructors[0].getModifiers(), Modifier.PUBLIC);
        check.due("it takes nothing", constructors[0].getParameterCount(), 0);
        check.due("a constant of the compiler", isConstant(-1), true);
        check.finish();
    }

    /** Compiles only if BAD may stand behind a case. */
    private static boolean isConstant(int number) {
        switch (number) {
            case BasinSizes.BAD:
                return true;
            default:
                return false;
        }
    }

    private static String text(Method m) {
        StringBuilder b = new StringBuilder(m.getReturnType().getName()).append(' ').append(m.getName()).append('(');
        Class<?>[] parameters = m.getParameterTypes();
        for (int i = 0; i < parameters.length; i++) {
            b.append(i == 0 ? "" : ",").append(parameters[i].getName());
        }
        return b.append(')').toString();
    }
}
