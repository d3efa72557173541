import java.lang.reflect.Array;
import java.lang.reflect.Constructor;
import java.lang.reflect.Field;
import java.lang.reflect.Method;
import java.lang.reflect.Modifier;
import java.util.ArrayDeque;
import java.util.Arrays;
import java.util.Collections;
import java.util.Deque;
import java.util.IdentityHashMap;
import java.util.Set;
import java.util.TreeSet;

/** The class has the document's face and nothing else that can be seen, and what it holds doesn't grow by calls. */
final class FaceTest {
    private static final Set<String> FACE = new TreeSet<>(Arrays.asList(
        "int feed(int, int, int, int, int)",
        "int end(int)",
        "int take()",
        "boolean picture(int, int, int, int, int, int, int)",
        "boolean put(int, int, int, int)",
        "boolean set(int, int, int, int)",
        "int scan(int, int, int, int, int)",
        "void clear()",
        "boolean restart(int)",
        "int write()",
        "int out(int)",
        "int read()",
        "int errorAt()",
        "int look(int)",
        "int component(int, int)",
        "int coefficient(int, int, int)",
        "int sample(int, int, int)",
        "int known(int, int)"));
    private static final int MOST_HELD = 100_000;

    private FaceTest() {
    }

    public static void main(String[] args) throws ReflectiveOperationException {
        classIsPublicAndFinal();
        methodsOfTheFace();
        constantAndConstructor();
        nothingElseCanBeSeen();
        namesOfTheFaceAreItsOwn();
        whatIsHeldStays();
        Due.end();
    }

    /** "public final class ScanDesk" */
    private static void classIsPublicAndFinal() {
        int modifiers = ScanDesk.class.getModifiers();
        Due.yes("public", Modifier.isPublic(modifiers));
        Due.yes("final", Modifier.isFinal(modifiers));
        Due.yes("no package", ScanDesk.class.getPackageName().isEmpty());
    }

    private static void methodsOfTheFace() {
        Set<String> seen = new TreeSet<>();
        for (Method method : ScanDesk.class.getDeclaredMethods()) {
            if (Modifier.isPublic(method.getModifiers())) {
                seen.add(signature(method));
                Due.no(method.getName() + " is static", Modifier.isStatic(method.getModifiers()));
            }
        }
        Due.yes("the public methods " + seen, seen.equals(FACE));
    }

    private static String signature(Method method) {
        String parameters = Arrays.toString(method.getParameterTypes());
        return method.getReturnType() + " " + method.getName() + "("
            + parameters.substring(1, parameters.length() - 1) + ")";
    }

    /** "public static final int NONE = -1", "public ScanDesk()" */
    private static void constantAndConstructor() throws ReflectiveOperationException {
        Field none = ScanDesk.class.getDeclaredField("NONE");
        int constant = Modifier.PUBLIC | Modifier.STATIC | Modifier.FINAL;
        Due.is("NONE's modifiers", none.getModifiers(), constant);
        Due.yes("NONE is an int", none.getType() == int.class);
        Due.is("NONE", none.getInt(null), -1);
        Due.is("public fields", ScanDesk.class.getFields().length, 1);
        Constructor<?>[] constructors = ScanDesk.class.getDeclaredConstructors();
        Due.is("constructors", constructors.length, 1);
        Due.is("its modifiers", constructors[0].getModifiers(), Modifier.PUBLIC);
        Due.is("its parameters", constructors[0].getParameterCount(), 0);
    }

    private static void nothingElseCanBeSeen() {
        for (Method method : ScanDesk.class.getDeclaredMethods()) {
            int seen = method.getModifiers() & (Modifier.PUBLIC | Modifier.PRIVATE);
            Due.yes(method.getName() + " is public or private", seen != 0 || method.isSynthetic());
        }
        for (Field field : ScanDesk.class.getDeclaredFields()) {
            boolean hidden = Modifier.isPrivate(field.getModifiers()) || field.isSynthetic();
            Due.yes(field.getName() + " is private", hidden || field.getName().equals("NONE"));
            boolean fixed = Modifier.isFinal(field.getModifiers()) || !Modifier.isStatic(field.getModifiers());
            Due.yes(field.getName() + " is no static state", fixed);
        }
        for (Class<?> inside : ScanDesk.class.getDeclaredClasses()) {
            Due.yes(inside.getName() + " is static", Modifier.isStatic(inside.getModifiers()));
            Due.no(inside.getName() + " is public", Modifier.isPublic(inside.getModifiers()));
        }
    }

    private static void namesOfTheFaceAreItsOwn() {
        String names = FACE.toString();
        for (Method method : ScanDesk.class.getDeclaredMethods()) {
            if (Modifier.isPrivate(method.getModifiers())) {
                Due.no(method.getName() + " is a name of the face", names.contains(" " + method.getName() + "("));
            }
        }
    }

    private static void whatIsHeldStays() throws ReflectiveOperationException {
        ScanDesk desk = new ScanDesk();
        long first = held(desk);
        Due.yes("fields and elements of one object: " + first, first > 0 && first < MOST_HELD);
        for (int round = 0; round < 20; round++) {
            Due.yes("picture", desk.picture(1 + round % 2, 40, 40, 8, 3, 1, 1));
            Due.is("scan", desk.scan(7, round % 2, 0, 0, 0), 1);
            Due.is("take", desk.write(), desk.take());
            Due.is("read", desk.read(), 1);
        }
        Due.is("fields and elements behind many calls", held(desk), first);
    }

    /** Fields and elements of all that can be reached from this object. */
    private static long held(ScanDesk desk) throws ReflectiveOperationException {
        Set<Object> met = Collections.newSetFromMap(new IdentityHashMap<>());
        Deque<Object> due = new ArrayDeque<>();
        long count = 0;
        met.add(desk);
        due.add(desk);
        while (!due.isEmpty()) {
            Object next = due.remove();
            count += next.getClass().isArray() ? elementsOf(next, met, due) : fieldsOf(next, met, due);
        }
        return count;
    }

    private static int elementsOf(Object row, Set<Object> met, Deque<Object> due) {
        int length = Array.getLength(row);
        for (int i = 0; i < length && !row.getClass().getComponentType().isPrimitive(); i++) {
            meet(Array.get(row, i), met, due);
        }
        return length;
    }

    private static int fieldsOf(Object object, Set<Object> met, Deque<Object> due) throws ReflectiveOperationException {
        int count = 0;
        for (Field field : object.getClass().getDeclaredFields()) {
            if (Modifier.isStatic(field.getModifiers())) {
                continue;
            }
            count++;
            if (!field.getType().isPrimitive()) {
                field.setAccessible(true);
                meet(field.get(object), met, due);
            }
        }
        return count;
    }

    private static void meet(Object object, Set<Object> met, Deque<Object> due) {
        if (object != null && met.add(object)) {
            due.add(object);
        }
    }
}
