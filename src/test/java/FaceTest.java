import java.lang.reflect.Field;
import java.lang.reflect.Method;
import java.lang.reflect.Modifier;
import java.util.Arrays;
import java.util.Set;
import java.util.TreeSet;
import java.util.stream.Collectors;

/** The class shows the document's face and nothing beside it. */
final class FaceTest {
    private static final String[] FACE = {
        "int desk()", "int link(int,int)", "int cut(int,int)", "int reader(int)", "int move(int,int)",
        "boolean test(int,int,int,int)", "boolean among(int,int)", "int wish(int)", "int off(int)",
        "int send(int,int,int,int,int)", "int deliver(int,int,int)", "int all()", "int covers(int,int)",
        "int fits(int,int,int,int,int)", "int table(int,int,int)", "int told(int,int,int)",
        "int message(int,int,int)", "int heard(int,int)", "int notice(int,int)", "int look(int,int)",
        "int count(int)"};

    private FaceTest() {
    }

    public static void main(String[] args) {
        Class<?> face = WishRoutes.class;
        Check.due("public and final", face.getModifiers(), Modifier.PUBLIC | Modifier.FINAL);
        Check.due("public methods", shownMethods(face).toString(), new TreeSet<>(Arrays.asList(FACE)).toString());
        Check.due("shown fields", shownFields(face).toString(), "[public static final int NONE]");
        Check.due("NONE", WishRoutes.NONE, -1);
        Check.due("constructors", Arrays.toString(face.getDeclaredConstructors()), "[public WishRoutes()]");
        Check.due("classes inside that are not static or public", badClasses(face), 0);
        Check.due("private methods with a public one's name", sharedNames(face).toString(), "[]");
        Check.end();
    }

    private static Set<String> shownMethods(Class<?> face) {
        return Arrays.stream(face.getDeclaredMethods())
            .filter(m -> !Modifier.isPrivate(m.getModifiers()))
            .map(FaceTest::written)
            .collect(Collectors.toCollection(TreeSet::new));
    }

    private static String written(Method m) {
        String types = Arrays.stream(m.getParameterTypes()).map(Class::getName).collect(Collectors.joining(","));
        String start = Modifier.toString(m.getModifiers()).equals("public") ? "" : Modifier.toString(m.getModifiers());
        return start + m.getReturnType().getName() + " " + m.getName() + "(" + types + ")";
    }

    private static Set<String> shownFields(Class<?> face) {
        Set<String> shown = new TreeSet<>();
        for (Field field : face.getDeclaredFields()) {
            if (!Modifier.isPrivate(field.getModifiers())) {
                shown.add(Modifier.toString(field.getModifiers()) + " " + field.getType() + " " + field.getName());
            }
        }
        return shown;
    }

    private static long badClasses(Class<?> face) {
        return Arrays.stream(face.getDeclaredClasses())
            .filter(c -> !Modifier.isStatic(c.getModifiers()) || Modifier.isPublic(c.getModifiers()))
            .count();
    }

    private static Set<String> sharedNames(Class<?> face) {
        Set<String> shown = Arrays.stream(face.getMethods()).map(Method::getName).collect(Collectors.toSet());
        Set<String> shared = new TreeSet<>();
        for (Class<?> inside : face.getDeclaredClasses()) {
            Arrays.stream(inside.getDeclaredMethods()).map(Method::getName).filter(shown::contains).forEach(shared::add);
        }
        Arrays.stream(face.getDeclaredMethods()).filter(m -> Modifier.isPrivate(m.getModifiers()))
            .map(Method::getName).filter(shown::contains).forEach(shared::add);
        return shared;
    }
}
