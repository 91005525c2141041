import java.lang.reflect.Constructor;
import java.lang.reflect.Field;
import java.lang.reflect.Method;
import java.lang.reflect.Modifier;
import java.nio.file.Files;
import java.nio.file.Path;
import java.util.ArrayList;
import java.util.Arrays;
import java.util.List;
import java.util.Set;
import java.util.TreeSet;

/** The class has the document's face and no other, and keeps to rules of ../shared/LANGUAGE.md that can be read off. */
public final class FaceTests {
    private static final String INDEX = " throws IndexOutOfBoundsException";
    private static final String ARGUMENT = " throws IllegalArgumentException";
    private static final String STATE = " throws IllegalStateException";
    private static final String INDEX_STATE = " throws IndexOutOfBoundsException, IllegalStateException";
    private static final String ALL_THREE =
        " throws IndexOutOfBoundsException, IllegalArgumentException, IllegalStateException";

    private static final String[] FACE = {
        "int add(int)" + INDEX_STATE,
        "int step(int, int)" + ALL_THREE,
        "int change(int, int)" + ARGUMENT,
        "int bake(int)" + INDEX_STATE,
        "int bakeAll()" + STATE,
        "boolean isFresh(int)" + INDEX,
        "boolean isFreshAnew(int)" + INDEX,
        "int layers()",
        "int bakes()",
        "int latest(int)" + INDEX,
        "int top(int)" + INDEX,
        "boolean test(int, boolean)" + INDEX_STATE,
        "int hold(int)" + INDEX_STATE,
        "int raise(int)" + INDEX_STATE,
        "int copy(int, int)" + ALL_THREE,
        "void setRules(int, int, int, int)" + ARGUMENT,
        "int pass(int)" + ARGUMENT,
        "int state(int)" + INDEX,
        "int start(int, int, int)" + ALL_THREE,
        "int renew(int)" + INDEX_STATE,
        "int stop(int)" + INDEX,
        "int runsFrom(int)" + INDEX,
        "int old()",
        "int oldAt(int)" + INDEX,
    };

    private static final String[] NOT_IN_THE_LANGUAGE = {
        "import ", "package ", "->", "::", "try ", "catch", "finally", "synchronized", "assert ", "Exact(",
        "System.", "Thread", "\" +", "+ \"", "==\"", ".equals(", ".hashCode(", ".toString(",
    };

    private static final Path SOURCE = Path.of("src/main/java/ImageBaker.java");
    private static final int MOST_PARAMETERS = 7;
    private static final int MOST_CLASSES = 12;
    private static final int MOST_FIELDS = 20;
    private static final int MOST_LINES = 60;

    private static int wrong = 0;

    public static void main(String[] args) throws Exception {
        Class<?> baker = ImageBaker.class;
        due(baker.getModifiers() == (Modifier.PUBLIC | Modifier.FINAL), "the class is public and final, nothing else");
        due(baker.getDeclaredConstructors().length == 1 && baker.getConstructors().length == 1, "one constructor");
        faceIsThatOfTheDocument(baker);
        fieldsAreHidden(baker);
        innerClassesAreStatic(baker);
        sizesAreKept(baker);
        sourceHasNoForbiddenWords();
        methodsAreShort();
        if (wrong > 0) {
            System.exit(1);
        }
        System.out.println("the face is that of the document");
    }

    private static void due(boolean holds, String what) {
        if (!holds) {
            wrong++;
            System.out.println("not so: " + what);
        }
    }

    private static void faceIsThatOfTheDocument(Class<?> baker) {
        Set<String> want = new TreeSet<>(Arrays.asList(FACE));
        Set<String> got = new TreeSet<>();
        Set<String> openNames = new TreeSet<>();
        List<String> privateNames = new ArrayList<>();
        for (Method method : baker.getDeclaredMethods()) {
            if (Modifier.isPrivate(method.getModifiers())) {
                privateNames.add(method.getName());
            } else {
                due(method.getModifiers() == Modifier.PUBLIC, method.getName() + " is public, nothing else");
                got.add(signatureOf(method));
                openNames.add(method.getName());
            }
        }
        due(want.equals(got), "the face is " + want + ", but it is " + got);
        for (Class<?> inside : baker.getDeclaredClasses()) {
            for (Method method : inside.getDeclaredMethods()) {
                privateNames.add(method.getName());
            }
        }
        for (String name : privateNames) {
            due(!openNames.contains(name), "no private method is named " + name);
        }
    }

    private static String signatureOf(Method method) {
        return method.getReturnType().getSimpleName() + " " + method.getName()
            + "(" + namesOf(method.getParameterTypes()) + ")"
            + (method.getExceptionTypes().length == 0 ? "" : " throws " + namesOf(method.getExceptionTypes()));
    }

    private static String namesOf(Class<?>[] classes) {
        List<String> names = new ArrayList<>();
        for (Class<?> one : classes) {
            names.add(one.getSimpleName());
        }
        return String.join(", ", names);
    }

    private static List<Class<?>> withThoseInside(Class<?> baker) {
        List<Class<?>> all = new ArrayList<>(Arrays.asList(baker.getDeclaredClasses()));
        all.add(baker);
        return all;
    }

    private static void fieldsAreHidden(Class<?> baker) {
        for (Class<?> each : withThoseInside(baker)) {
            for (Field field : each.getDeclaredFields()) {
                due(Modifier.isPrivate(field.getModifiers()), field.getName() + " is private");
                boolean isStatic = Modifier.isStatic(field.getModifiers());
                due(!isStatic || Modifier.isFinal(field.getModifiers()), field.getName() + " is final if static");
            }
        }
    }

    private static void innerClassesAreStatic(Class<?> baker) {
        for (Class<?> inside : baker.getDeclaredClasses()) {
            due(Modifier.isStatic(inside.getModifiers()), inside.getName() + " is static");
            due(!Modifier.isPublic(inside.getModifiers()), inside.getName() + " is not public");
        }
    }

    /** The numbers of the rule 11. */
    private static void sizesAreKept(Class<?> baker) {
        due(baker.getDeclaredClasses().length < MOST_CLASSES, "at most " + MOST_CLASSES + " classes");
        for (Class<?> each : withThoseInside(baker)) {
            int fields = 0;
            for (Field field : each.getDeclaredFields()) {
                fields += Modifier.isStatic(field.getModifiers()) ? 0 : 1;
            }
            due(fields <= MOST_FIELDS, "at most " + MOST_FIELDS + " fields in " + each.getName());
            for (Method method : each.getDeclaredMethods()) {
                due(method.getParameterCount() <= MOST_PARAMETERS, method.getName() + " takes at most 7 parameters");
            }
            for (Constructor<?> constructor : each.getDeclaredConstructors()) {
                due(constructor.getParameterCount() <= MOST_PARAMETERS, each.getName() + " takes at most 7 parameters");
                due(constructor.getExceptionTypes().length == 0, "the constructor of " + each.getName() + " throws nothing");
            }
        }
    }

    /** No method holds an empty line, so what stands between two empty lines is one method, or a row of fields. */
    private static void methodsAreShort() throws Exception {
        int lines = 0;
        for (String line : Files.readAllLines(SOURCE)) {
            lines = line.isBlank() ? 0 : lines + 1;
            due(lines <= MOST_LINES, "at most " + MOST_LINES + " lines up to: " + line.strip());
        }
    }

    private static void sourceHasNoForbiddenWords() throws Exception {
        for (String line : Files.readAllLines(SOURCE)) {
            boolean isComment = line.strip().startsWith("//") || line.strip().startsWith("*") || line.strip().startsWith("/*");
            for (String word : NOT_IN_THE_LANGUAGE) {
                due(isComment || !line.contains(word), "no " + word + " in: " + line.strip());
            }
            due(line.chars().allMatch(sign -> sign >= ' ' && sign <= '~'), "only signs up to 126 in: " + line.strip());
        }
    }
}
