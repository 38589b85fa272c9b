import java.io.IOException;
import java.lang.reflect.Array;
import java.lang.reflect.Constructor;
import java.lang.reflect.Field;
import java.lang.reflect.Member;
import java.lang.reflect.Method;
import java.lang.reflect.Modifier;
import java.nio.file.Files;
import java.nio.file.Path;
import java.util.ArrayDeque;
import java.util.Collections;
import java.util.Deque;
import java.util.IdentityHashMap;
import java.util.NoSuchElementException;
import java.util.Set;
import java.util.TreeSet;
import java.util.regex.Pattern;

/** The face of the class, what LANGUAGE.md says of its form, and the room that an object takes. */
public final class FaceTest {
    private static final String[] FACE = {
        "int book(int,int,boolean)", "int cost(int,int,int)", "int day(int,int,int)", "int due(int)",
        "boolean end(int)", "int endDay()", "int fault()", "int feed(int,int,int,int,int)", "int leave(int)",
        "int load(int,int)", "int now(int)", "int plan(int,int,int)", "int planned(int,int,int)",
        "int reaches(int,int)", "int room(int)", "boolean sick(int,boolean)", "int text()", "int undo()",
        "boolean work(int,int)", "int worker(int,int)"};

    private static int objects = 0;
    private static int elements = 0;

    public static void main(String[] args) throws IOException, IllegalAccessException {
        constants();
        methods();
        classes();
        source();
        room();
        Check.finish();
    }

    private static void constants() {
        Check.is("NONE", HoursBank.NONE, -1);
        Check.is("a public final class", HoursBank.class.getModifiers(), Modifier.PUBLIC | Modifier.FINAL);
        int open = 0;
        for (Field field : HoursBank.class.getDeclaredFields()) {
            open += isOpen(field) ? 1 : 0;
        }
        Check.is("fields that are not private", open, 1);
        open = 0;
        for (Constructor<?> constructor : HoursBank.class.getDeclaredConstructors()) {
            open += isOpen(constructor) ? 1 : 0;
        }
        Check.is("constructors that are not private", open, 1);
    }

    private static void methods() {
        Set<String> due = new TreeSet<>(Set.of(FACE));
        Set<String> open = new TreeSet<>();
        Set<String> names = new TreeSet<>();
        for (Method method : HoursBank.class.getDeclaredMethods()) {
            if (isOpen(method)) {
                open.add(told(method));
                names.add(method.getName());
            }
        }
        Check.is("the face " + open, open.equals(due), true);
        for (Class<?> type : HoursBank.class.getDeclaredClasses()) {
            for (Method method : type.getDeclaredMethods()) {
                Check.is(type + " has " + method.getName(), names.contains(method.getName()), false);
            }
        }
        for (Method method : HoursBank.class.getDeclaredMethods()) {
            boolean isHidden = !isOpen(method) && names.contains(method.getName());
            Check.is("a private " + method.getName(), isHidden, false);
            boolean mayThrow = Set.of("worker", "due", "leave").contains(method.getName());
            Class<?>[] thrown = method.getExceptionTypes();
            Check.is("throws of " + method.getName(), thrown.length, mayThrow ? 1 : 0);
            Check.is("what it throws", thrown.length == 1 && thrown[0] != NoSuchElementException.class, false);
        }
    }

    private static String told(Method method) {
        StringBuilder text = new StringBuilder();
        for (Class<?> type : method.getParameterTypes()) {
            text.append(text.length() == 0 ? "" : ",").append(type.getName());
        }
        return method.getReturnType() + " " + method.getName() + "(" + text + ")";
    }

    private static boolean isOpen(Member member) {
        return !Modifier.isPrivate(member.getModifiers());
    }

    private static void classes() {
        Class<?>[] inside = HoursBank.class.getDeclaredClasses();
        Check.is("at most some twelve classes", inside.length <= 11, true);
        for (Class<?> type : inside) {
            Check.is(type + " is static", Modifier.isStatic(type.getModifiers()), true);
            Check.is(type + " is public", Modifier.isPublic(type.getModifiers()), false);
            int fields = 0;
            for (Field field : type.getDeclaredFields()) {
                fields += Modifier.isStatic(field.getModifiers()) ? 0 : 1;
                boolean isLoose = Modifier.isStatic(field.getModifiers()) && !Modifier.isFinal(field.getModifiers());
                Check.is(field + " is static and not final", isLoose, false);
            }
            Check.is("fields of " + type, fields <= 20, true);
        }
    }

    private static void source() throws IOException {
        String source = Files.readString(Path.of("src/main/java/HoursBank.java"));
        for (String word : new String[] {"\\btry\\b", "\\bcatch\\b", "\\bfinally\\b", "\\bsynchronized\\b",
            "\\bassert\\b", "\\bpackage\\b", "Exact\\b", "->", "::", "\\bhashCode\\b", "\\btoString\\b"}) {
            Check.is("the source has " + word, Pattern.compile(word).matcher(source).find(), false);
        }
        int imports = source.split("\nimport ", -1).length;
        Check.is("imports", imports, 2);
        for (char sign : source.toCharArray()) {
            Check.is("a sign of the source", sign == '\n' || sign >= 32 && sign < 127, true);
        }
    }

    /** The dearest call is the constructor: made by every one of 512 calls, it must stay within the room. */
    private static void room() throws IllegalAccessException {
        Set<Object> seen = Collections.newSetFromMap(new IdentityHashMap<>());
        Deque<Object> open = new ArrayDeque<>();
        open.add(new HoursBank());
        while (!open.isEmpty()) {
            Object one = open.remove();
            if (!seen.add(one)) {
                continue;
            }
            objects++;
            if (one.getClass().isArray()) {
                countArray(one, open);
            } else {
                countFields(one, open);
            }
        }
        Check.is("objects of 512 banks: " + 512 * objects, 512 * objects < 600_000, true);
        Check.is("elements of 512 banks: " + 512 * elements, 512 * elements < 7_300_000, true);
    }

    private static void countArray(Object array, Deque<Object> open) {
        elements += Array.getLength(array);
        if (!array.getClass().getComponentType().isPrimitive()) {
            for (int i = 0; i < Array.getLength(array); i++) {
                open.add(Array.get(array, i));
            }
        }
    }

    private static void countFields(Object one, Deque<Object> open) throws IllegalAccessException {
        for (Field field : one.getClass().getDeclaredFields()) {
            if (Modifier.isStatic(field.getModifiers())) {
                continue;
            }
            elements++;
            if (!field.getType().isPrimitive()) {
                field.setAccessible(true);
                open.add(field.get(one));
            }
        }
    }
}
