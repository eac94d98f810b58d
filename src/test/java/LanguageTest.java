import java.io.IOException;
import java.lang.reflect.Executable;
import java.lang.reflect.Field;
import java.lang.reflect.Method;
import java.lang.reflect.Modifier;
import java.nio.file.Files;
import java.nio.file.Path;
import java.util.ArrayList;
import java.util.List;
import java.util.Set;
import java.util.TreeSet;
import java.util.regex.Pattern;

/** Rules of LANGUAGE.md that can be looked up in the class and in its text. */
public final class LanguageTest {
    private static final Check CHECK = new Check("LanguageTest");
    private static final Class<?> FACE = BasinSizes.class;
    /** None of these is needed here, most are ruled out: so none stands in the program. */
    private static final String[] UNUSED = {"package", "import", "catch", "try", "throw", "throws", "finally",
        "synchronized", "assert", "native", "volatile", "transient", "protected", "instanceof", "double", "float",
        "System", "Object", "Thread", "equals", "hashCode", "toString", "\\w+Exact"};

    public static void main(String[] args) throws IOException {
        faceAlone();
        namesOfPrivateMethods();
        staticFields();
        sizes();
        words(Files.readString(Path.of(System.getProperty("project", "."), "src/main/java/BasinSizes.java")));
        CHECK.finish();
    }

    private static List<Class<?>> all() {
        List<Class<?>> all = new ArrayList<>(List.of(FACE.getDeclaredClasses()));
        all.add(FACE);
        return all;
    }

    /** Rule 1: the classes inside are private or package-visible, and static. */
    private static void faceAlone() {
        for (Class<?> inside : FACE.getDeclaredClasses()) {
            int modifiers = inside.getModifiers();
            CHECK.due(inside + " is hidden", Modifier.isPublic(modifiers) || Modifier.isProtected(modifiers), false);
            CHECK.due(inside + " is static", Modifier.isStatic(modifiers), true);
        }
    }

    /** Rule 1: no private method bears the name of a public one. */
    private static void namesOfPrivateMethods() {
        Set<String> names = new TreeSet<>();
        for (Method m : FACE.getDeclaredMethods()) {
            if (Modifier.isPublic(m.getModifiers())) {
                names.add(m.getName());
            }
        }
        for (Class<?> c : all()) {
            for (Method m : c.getDeclaredMethods()) {
                boolean shown = c == FACE && Modifier.isPublic(m.getModifiers());
                CHECK.due(c + " has a name of the face: " + m.getName(), !shown && names.contains(m.getName()), false);
            }
        }
    }

    /** Rule 5: static fields are final constants. */
    private static void staticFields() {
        Set<Class<?>> allowed = Set.of(int.class, long.class, boolean.class, char.class, String.class);
        for (Class<?> c : all()) {
            for (Field f : c.getDeclaredFields()) {
                if (Modifier.isStatic(f.getModifiers())) {
                    CHECK.due(f + " is final", Modifier.isFinal(f.getModifiers()), true);
                    CHECK.due(f + " is a constant", allowed.contains(f.getType()), true);
                }
            }
        }
    }

    /** Rule 11: parameters of a method, classes of the file, fields of a class. */
    private static void sizes() {
        CHECK.due("twelve classes at most", all().size() <= 12, true);
        for (Class<?> c : all()) {
            List<Executable> calls = new ArrayList<>(List.of(c.getDeclaredMethods()));
            calls.addAll(List.of(c.getDeclaredConstructors()));
            for (Executable call : calls) {
                CHECK.due(call + " has seven parameters at most", call.getParameterCount() <= 7, true);
            }
            int fields = 0;
            for (Field f : c.getDeclaredFields()) {
                fields += Modifier.isStatic(f.getModifiers()) ? 0 : 1;
            }
            CHECK.due(c + " has twenty fields at most", fields <= 20, true);
        }
    }

    /** Rules 2, 4, 6 and 13, and that nothing is answered by catching what the machine throws. */
    private static void words(String program) {
        String code = program.replaceAll("(?s)/\\*.*?\\*/", " ").replaceAll("//[^\n]*", " ")
                .replaceAll("\"[^\"\n]*\"", "\"\"");
        for (String word : UNUSED) {
            CHECK.due("the word " + word, Pattern.compile("\\b" + word + "\\b").matcher(code).find(), false);
        }
        for (String sign : new String[] {"->", "::", "@"}) {
            CHECK.due("the signs " + sign, code.contains(sign), false);
        }
    }
}
