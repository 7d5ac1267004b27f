import java.lang.reflect.Constructor;
import java.lang.reflect.Field;
import java.lang.reflect.Member;
import java.lang.reflect.Method;
import java.lang.reflect.Modifier;
import java.util.Set;
import java.util.TreeSet;

/** 'The public face' of the document: these members with these exceptions, in this order, and no other ones. */
public final class FaceTest {
    private static final String INDEX = "IndexOutOfBoundsException";
    private static final String ARGUMENT = "IllegalArgumentException";
    private static final String STATE = "IllegalStateException";

    private static final String[] METHODS = {
        "public int setBells(int) throws " + ARGUMENT,
        "public int write(int) throws " + INDEX + "," + STATE,
        "public int swap(int,int) throws " + INDEX,
        "public int next(int) throws " + INDEX,
        "public int behind(int,int) throws " + INDEX + "," + STATE,
        "public int back(int) throws " + INDEX,
        "public int repeat(int,int) throws " + INDEX + "," + ARGUMENT,
        "public int step(int) throws " + ARGUMENT + "," + STATE,
        "public int clear()",
        "public int ring(int,int) throws " + INDEX + "," + ARGUMENT,
        "public int bell(int,int) throws " + INDEX,
        "public int told(int,int) throws " + INDEX,
        "public int round(int,int) throws " + INDEX,
        "public int apart(int,int) throws " + INDEX,
        "public int count(int) throws " + INDEX,
        "public int kept(int) throws " + INDEX,
        "public int comes(int) throws " + INDEX,
        "public int differ(int) throws " + ARGUMENT,
        "public int advise(int) throws " + INDEX,
        "public double mean()",
        "public long digest()",
    };

    private static final Checks checks = new Checks();

    public static void main(String[] args) {
        theClass();
        theConstructor();
        theMethods();
        theFields();
        theClassesInside();
        checks.end();
    }

    private static void theClass() {
        Class<?> face = BellRanks.class;
        checks.same("modifiers", Modifier.toString(face.getModifiers()), "public final");
        checks.same("package", face.getPackageName(), "");
        checks.same("the class above it", face.getSuperclass(), Object.class);
        checks.same("interfaces", face.getInterfaces().length, 0);
    }

    private static void theConstructor() {
        Constructor<?>[] constructors = BellRanks.class.getDeclaredConstructors();
        checks.same("constructors", constructors.length, 1);
        for (Constructor<?> constructor : constructors) {
            checks.same("constructor", constructor.toString(), "public BellRanks()");
        }
    }

    private static void theMethods() {
        Set<String> open = new TreeSet<>();
        Set<String> names = new TreeSet<>();
        for (Method method : BellRanks.class.getDeclaredMethods()) {
            if (isOpen(method)) {
                open.add(method.toString().replace("BellRanks.", "").replace("java.lang.", ""));
                names.add(method.getName());
            }
        }
        checks.same("methods", open, new TreeSet<>(Set.of(METHODS)));
        for (Method method : BellRanks.class.getDeclaredMethods()) {
            boolean doubled = !isOpen(method) && names.contains(method.getName());
            checks.same("a private method of the name of a public one: " + method, doubled, false);
        }
    }

    private static void theFields() {
        for (Field field : BellRanks.class.getDeclaredFields()) {
            checks.same("is open: " + field, isOpen(field), false);
            checkStatic(field);
        }
    }

    private static void theClassesInside() {
        for (Class<?> inside : BellRanks.class.getDeclaredClasses()) {
            int modifiers = inside.getModifiers();
            checks.same("is open: " + inside, Modifier.isPublic(modifiers) || Modifier.isProtected(modifiers), false);
            checks.same("is static: " + inside, Modifier.isStatic(modifiers), true);
            for (Field field : inside.getDeclaredFields()) {
                checkStatic(field);
            }
        }
    }

    /** What objects share may only be constants: LANGUAGE.md, rule 5. */
    private static void checkStatic(Field field) {
        int modifiers = field.getModifiers();
        if (Modifier.isStatic(modifiers)) {
            checks.same("is final: " + field, Modifier.isFinal(modifiers), true);
        }
    }

    private static boolean isOpen(Member member) {
        return !Modifier.isPrivate(member.getModifiers());
    }
}
