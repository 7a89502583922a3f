import java.lang.reflect.Constructor;
import java.lang.reflect.Method;
import java.lang.reflect.Modifier;
import java.lang.reflect.Field;
import java.util.Arrays;
import java.util.Set;
import java.util.TreeSet;
import java.util.regex.MatchResult;
import java.util.stream.Collectors;
import java.util.stream.Stream;

/** The face of the class is the document's, and nothing else of it can be seen. */
public final class FaceTest {
    private static final String NONE = "java.util.NoSuchElementException";
    private static final String STATE = "java.lang.IllegalStateException";
    private static final String ARGUMENT = "java.lang.IllegalArgumentException";
    private static final String HANDLE_ONLY = " throws " + NONE;
    private static final String NO_STATE = " throws " + NONE + "," + ARGUMENT;
    private static final String NO_ARGUMENT = " throws " + NONE + "," + STATE;
    private static final String ALL = " throws " + NONE + "," + STATE + "," + ARGUMENT;

    private static final String[] FACE = {
        "int desk 2" + ALL, "int day 1 throws " + ARGUMENT, "int site 1" + NO_ARGUMENT,
        "int context 2" + NO_ARGUMENT, "boolean above 3" + ALL, "int span 4" + ALL,
        "boolean isAbove 2" + HANDLE_ONLY, "int year 2" + NO_STATE, "int find 3" + ALL,
        "int object 2" + ALL, "int store 2" + NO_ARGUMENT, "boolean carry 3" + ALL,
        "boolean within 2" + HANDLE_ONLY, "boolean move 4" + ALL, "int place 2" + NO_STATE,
        "int stored 2" + NO_STATE, "int loan 4" + ALL, "int back 3" + ALL, "int show 4" + ALL,
        "boolean hang 3" + ALL, "boolean take 3" + NO_ARGUMENT, "int claim 3" + ALL,
        "int close 2" + ALL, "int where 2" + NO_STATE, "int origin 1" + HANDLE_ONLY,
        "int hall 1" + HANDLE_ONLY, "int rule 0", "int count 1" + HANDLE_ONLY,
    };

    public static void main(String[] args) {
        Class<?> house = MuseumHouse.class;
        int mods = house.getModifiers();
        Checks.equal("public final", Modifier.toString(mods));
        Checks.equal("", house.getPackageName());
        Checks.equal(new TreeSet<>(Arrays.asList(FACE)).toString(), openMethods(house).toString());
        inTheDocument();
        constructors(house);
        fields(house);
        noSharedNames(house);
        Checks.end();
    }

    /** The face above is as the document has it; where that can't be read, it stands alone. */
    private static void inTheDocument() {
        Set<String> told = new TreeSet<>();
        for (MatchResult method : Document.face()) {
            int parameters = method.group(2).split("int ", -1).length - 1;
            told.add(method.group(1) + " " + parameters + thrown(method.group(3)));
        }
        if (!told.isEmpty()) {
            Checks.equal(told.toString(), new TreeSet<>(Arrays.asList(FACE)).toString());
        }
    }

    private static String thrown(String names) {
        return names == null ? "" : " throws " + Stream.of(names.split(", "))
            .map(name -> name.contains(".") ? name : "java.lang." + name)
            .collect(Collectors.joining(","));
    }

    private static Set<String> openMethods(Class<?> house) {
        return Stream.of(house.getDeclaredMethods())
            .filter(method -> !Modifier.isPrivate(method.getModifiers()))
            .map(FaceTest::written)
            .collect(Collectors.toCollection(TreeSet::new));
    }

    private static String written(Method method) {
        String thrown = Stream.of(method.getExceptionTypes())
            .map(Class::getName).collect(Collectors.joining(","));
        boolean allInts = Stream.of(method.getParameterTypes()).allMatch(type -> type == int.class);
        String text = method.getReturnType() + " " + method.getName() + " "
            + method.getParameterCount() + (thrown.isEmpty() ? "" : " throws " + thrown);
        return allInts && method.getModifiers() == Modifier.PUBLIC ? text : "odd: " + method;
    }

    private static void constructors(Class<?> house) {
        Constructor<?>[] all = house.getDeclaredConstructors();
        Checks.due(1, () -> all.length);
        Checks.equal("public MuseumHouse()", all[0].toString());
    }

    private static void fields(Class<?> house) {
        for (Field field : house.getDeclaredFields()) {
            int mods = field.getModifiers();
            Checks.due(true, () -> Modifier.isPrivate(mods));
            Checks.due(true, () -> !Modifier.isStatic(mods) || Modifier.isFinal(mods));
        }
    }

    /** No method of the classes inside, and no private one, bears the name of one of the face. */
    private static void noSharedNames(Class<?> house) {
        Set<String> names = Stream.of(house.getMethods())
            .filter(method -> method.getDeclaringClass() == house)
            .map(Method::getName).collect(Collectors.toSet());
        for (Class<?> inside : house.getDeclaredClasses()) {
            Checks.due(true, () -> Modifier.isStatic(inside.getModifiers()));
            for (Method method : inside.getDeclaredMethods()) {
                Checks.due(false, () -> names.contains(method.getName()));
            }
        }
        for (Method method : house.getDeclaredMethods()) {
            boolean isPrivate = Modifier.isPrivate(method.getModifiers());
            Checks.due(false, () -> isPrivate && names.contains(method.getName()));
        }
    }
}
