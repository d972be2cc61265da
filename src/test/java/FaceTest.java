import java.io.IOException;
import java.lang.reflect.Constructor;
import java.lang.reflect.Field;
import java.lang.reflect.Method;
import java.lang.reflect.Modifier;
import java.nio.file.Files;
import java.nio.file.Path;
import java.util.ArrayList;
import java.util.List;
import java.util.regex.Pattern;

/** The public face of the document, and the rules of LANGUAGE.md that can be read off the class and its file. */
public final class FaceTest {
    private static final List<String> METHODS = List.of("int fed(boolean)", "int limit(int)", "int blow(int,boolean)",
        "int cold(int,int)", "int order(int,int,int)", "int drop(int)", "int minutes(int)", "int until(int)",
        "int crane(int,int)", "int ladle(int,int)", "int vessel(int,int)", "int book(int,int)", "int count(int)",
        "int keep()", "int back()");
    private static final List<String> CONSTANTS = List.of("BAD", "NO", "FULL", "NONE");
    private static final List<String> NOT_IN_THE_FILE = List.of("throw", "throws", "try", "catch", "synchronized",
        "assert", "import", "package", "Object", "System", "Random", "Thread");

    public static void main(String[] args) throws IOException {
        Check.that("the class is public and final", HotAisle.class.getModifiers() == (Modifier.PUBLIC | Modifier.FINAL));
        constructors();
        methods();
        fields();
        classesInside();
        theFile();
        Check.end();
    }

    private static void constructors() {
        Constructor<?>[] all = HotAisle.class.getDeclaredConstructors();
        Check.same("constructors", all.length, 1);
        Check.that("it is public and takes nothing", Modifier.isPublic(all[0].getModifiers()) && all[0].getParameterCount() == 0);
    }

    private static void methods() {
        List<String> open = new ArrayList<>();
        List<String> names = new ArrayList<>();
        List<Method> hidden = new ArrayList<>();
        for (Method method : HotAisle.class.getDeclaredMethods()) {
            if (Modifier.isPrivate(method.getModifiers())) {
                hidden.add(method);
            } else {
                String types = "";
                for (Class<?> type : method.getParameterTypes()) {
                    types += (types.isEmpty() ? "" : ",") + type.getName();
                }
                open.add(method.getReturnType().getName() + " " + method.getName() + "(" + types + ")");
                names.add(method.getName());
                Check.that(method.getName() + " is public, not static", method.getModifiers() == Modifier.PUBLIC);
            }
        }
        Check.same("methods of the face", open.size(), METHODS.size());
        Check.that("the face has all of " + METHODS, open.containsAll(METHODS));
        for (Method method : hidden) {
            Check.that(method.getName() + " bears no public name", !names.contains(method.getName()));
        }
    }

    private static void fields() {
        for (Field field : HotAisle.class.getDeclaredFields()) {
            boolean told = CONSTANTS.contains(field.getName());
            int flags = field.getModifiers();
            Check.that(field.getName() + " is open only if told", Modifier.isPrivate(flags) != told && Modifier.isPublic(flags) == told);
            Check.that(field.getName() + " is final if static", !Modifier.isStatic(flags) || Modifier.isFinal(flags));
        }
    }

    private static void classesInside() {
        Class<?>[] all = HotAisle.class.getDeclaredClasses();
        Check.that("some twelve classes at most", all.length < 12);
        for (Class<?> inside : all) {
            int flags = inside.getModifiers();
            Check.that(inside.getName() + " is static", Modifier.isStatic(flags));
            Check.that(inside.getName() + " is not open", !Modifier.isPublic(flags) && !Modifier.isProtected(flags));
            Check.that(inside.getName() + " has some twenty fields at most", inside.getDeclaredFields().length <= 20);
            for (Field field : inside.getDeclaredFields()) {
                Check.that(field + " is not static", !Modifier.isStatic(field.getModifiers()));
            }
        }
    }

    private static void theFile() throws IOException {
        String text = Files.readString(Path.of("src/main/java/HotAisle.java"));
        String code = text.replaceAll("(?s)/\\*.*?\\*/", " ").replaceAll("//[^\n]*", " ");
        for (String word : NOT_IN_THE_FILE) {
            Check.that("no " + word + " in the file", !Pattern.compile("\\b" + word + "\\b").matcher(code).find());
        }
        Check.that("no lambda, no method reference", !code.contains("->") && !code.contains("::"));
    }
}
