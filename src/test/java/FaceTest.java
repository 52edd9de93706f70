import java.lang.reflect.Constructor;
import java.lang.reflect.Field;
import java.lang.reflect.Method;
import java.lang.reflect.Modifier;
import java.util.HashSet;
import java.util.Set;
import java.util.TreeSet;

/** The public face is the document's, and nothing else of the class can be seen. */
public final class FaceTest {
    private static final String NO_ELEMENT = "java.util.NoSuchElementException";
    private static final String ILLEGAL = "java.lang.IllegalArgumentException";
    private static final Checks CHECKS = new Checks();

    private FaceTest() {
    }

    public static void main(String[] args) {
        CHECKS.same("modifiers", Modifier.toString(LinePair.class.getModifiers()), "public final");
        CHECKS.same("package", LinePair.class.getPackageName(), "");
        CHECKS.same("NONE", LinePair.NONE, -1);
        methods();
        fieldsAndConstructors();
        namesOfPrivateMethods();
        CHECKS.end();
    }

    private static void methods() {
        Set<String> due = new TreeSet<>(Set.of(
                "boolean line(int,boolean) throws " + NO_ELEMENT,
                "boolean write(int,int,int) throws " + NO_ELEMENT + "," + ILLEGAL,
                "int read(int,int) throws " + NO_ELEMENT,
                "int take()",
                "int delivers(int) throws " + NO_ELEMENT,
                "int about(int,int) throws " + NO_ELEMENT + "," + ILLEGAL,
                "boolean mode(int,int) throws " + NO_ELEMENT + "," + ILLEGAL,
                "int count(int) throws " + ILLEGAL));
        Set<String> found = new TreeSet<>();
        for (Method method : LinePair.class.getDeclaredMethods()) {
            if (!Modifier.isPrivate(method.getModifiers())) {
                found.add(method.toGenericString().replace("LinePair.", "").replaceFirst("^public ", ""));
            }
        }
        CHECKS.same("methods", found.toString(), due.toString());
    }

    private static void fieldsAndConstructors() {
        for (Field field : LinePair.class.getDeclaredFields()) {
            boolean constant = field.getName().equals("NONE");
            String seen = Modifier.toString(field.getModifiers());
            CHECKS.same(field.getName() + " " + seen, seen.startsWith("private"), !constant);
            CHECKS.same(field.getName() + " is public", seen.equals("public static final"), constant);
        }
        Constructor<?>[] constructors = LinePair.class.getDeclaredConstructors();
        CHECKS.same("constructors", constructors.length, 1);
        CHECKS.same("constructor", constructors[0].toGenericString(), "public LinePair()");
    }

    private static void namesOfPrivateMethods() {
        Set<String> faceNames = new HashSet<>();
        for (Method method : LinePair.class.getMethods()) {
            faceNames.add(method.getName());
        }
        refuseNames(LinePair.class, faceNames);
        for (Class<?> inside : LinePair.class.getDeclaredClasses()) {
            CHECKS.same(inside.getName() + " is static", Modifier.isStatic(inside.getModifiers()), true);
            CHECKS.same(inside.getName() + " is seen from outside",
                    Modifier.isPublic(inside.getModifiers()) || Modifier.isProtected(inside.getModifiers()), false);
            refuseNames(inside, faceNames);
        }
    }

    private static void refuseNames(Class<?> owner, Set<String> faceNames) {
        for (Method method : owner.getDeclaredMethods()) {
            boolean hidden = Modifier.isPrivate(method.getModifiers());
            CHECKS.same(owner.getName() + "." + method.getName() + " bears a name of the face",
                    hidden && faceNames.contains(method.getName()), false);
        }
    }
}
