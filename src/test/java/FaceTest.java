import java.lang.reflect.Array;
import java.lang.reflect.Field;
import java.lang.reflect.Method;
import java.lang.reflect.Modifier;
import java.util.ArrayDeque;
import java.util.ArrayList;
import java.util.Collections;
import java.util.Deque;
import java.util.IdentityHashMap;
import java.util.List;
import java.util.Set;

/** "The public face", and those rules of LANGUAGE.md that can be told from the class and its text. */
public final class FaceTest {
    private static final int CALLS = 27;
    /** Rules 2, 4, 6 and 13; the class needs no catch, so that it cannot catch what the machine throws. */
    private static final List<String> WORDS = List.of(
        "import ", "package ", "->", "::", "try ", "catch", "finally", "synchronized", "assert ", "native", "volatile",
        "Exact(", "System.", "Thread", "Random", "hashCode", "equals(Object", "toString()", "\" +", "+ \"");
    private static final String THROW =
        "throw new (IllegalState|IllegalArgument|IndexOutOfBounds)Exception\\(\"[ -~]+\"\\);";

    public static void main(String[] args) throws IllegalAccessException {
        face();
        nothingElse();
        classesInside();
        fields();
        text();
        room();
        Expect.close("FaceTest");
    }

    private static List<Class<?>> classes() {
        List<Class<?>> all = new ArrayList<>(List.of(PaperKeeper.class.getDeclaredClasses()));
        all.add(PaperKeeper.class);
        return all;
    }

    private static void face() {
        String text = Texts.oneLine(Texts.rows(Texts.CLASS));
        List<String> heads = Texts.face();
        Expect.same("the constructor and the calls of the document", heads.size(), CALLS + 1);
        for (String head : heads) {
            Expect.same("the class has " + head, text.contains(" " + head + " {"), true);
        }
        Expect.same("the class is public and final", text.contains(" public final class PaperKeeper {"), true);
    }

    private static void nothingElse() {
        int open = 0;
        for (Method method : PaperKeeper.class.getDeclaredMethods()) {
            open += Modifier.isPrivate(method.getModifiers()) ? 0 : 1;
        }
        Expect.same("methods that are not private", open, CALLS);
        Expect.same("constructors", PaperKeeper.class.getDeclaredConstructors().length, 1);
        for (Field field : PaperKeeper.class.getDeclaredFields()) {
            Expect.same(field.getName() + " is private", Modifier.isPrivate(field.getModifiers()), true);
        }
    }

    private static void classesInside() {
        List<String> calls = Texts.face().stream().map(Texts::name).toList();
        Expect.same("some twelve classes at most", classes().size() <= 12, true);
        for (Class<?> each : classes()) {
            boolean outer = each == PaperKeeper.class;
            int modifiers = each.getModifiers();
            Expect.same(each + " is hidden", !Modifier.isPublic(modifiers) && !Modifier.isProtected(modifiers), !outer);
            Expect.same(each + " is static", Modifier.isStatic(modifiers), !outer);
            for (Method method : each.getDeclaredMethods()) {
                boolean ofFace = outer && Modifier.isPublic(method.getModifiers());
                Expect.same(method + " has a name of the face", calls.contains(method.getName()), ofFace);
                Expect.same(method + " has seven parameters at most", method.getParameterCount() <= 7, true);
            }
        }
    }

    private static void fields() {
        for (Class<?> each : classes()) {
            int own = 0;
            for (Field field : each.getDeclaredFields()) {
                boolean constant = Modifier.isStatic(field.getModifiers());
                own += constant ? 0 : 1;
                Class<?> type = field.getType();
                Class<?> element = type.isArray() ? type.getComponentType() : type;
                Expect.same(field + " is of a type that may be", element.isPrimitive() || classes().contains(element)
                    || element == String.class, true);
                Expect.same(field + " is no static state", !constant
                    || Modifier.isFinal(field.getModifiers()) && type.isPrimitive(), true);
            }
            Expect.same(each + " has some twenty fields at most", own <= 20, true);
        }
    }

    private static void text() {
        for (String row : Texts.rows(Texts.CLASS)) {
            Expect.same("only signs of 32 to 126: " + row, row.matches("[ -~]*"), true);
            String code = row.replaceAll("^ *(/\\*\\*|\\*|//).*", "").trim();
            for (String word : WORDS) {
                Expect.same("\"" + word + "\" stands in: " + row, code.contains(word), false);
            }
            Expect.same("a throw of a written text: " + row, !code.contains("throw ") || code.matches(THROW), true);
        }
    }

    /** A run has room for some 600,000 objects and 7.3 million elements; an object must take a small part of it. */
    private static void room() throws IllegalAccessException {
        PaperKeeper full = Keepers.approved(8);
        Set<Object> objects = Collections.newSetFromMap(new IdentityHashMap<>());
        Deque<Object> open = new ArrayDeque<>();
        open.add(full);
        long elements = 0;
        while (!open.isEmpty()) {
            Object next = open.remove();
            if (objects.add(next)) {
                elements += next.getClass().isArray() ? elementsOf(next, open) : fieldsOf(next, open);
            }
        }
        Expect.same("8 papers are told as they are kept", objects.size() > 8 * 8 && elements > 8 * 128, true);
        Expect.same(objects.size() + " objects are few", objects.size() < 1000, true);
        Expect.same(elements + " fields and elements are few", elements < 10000, true);
    }

    private static int elementsOf(Object array, Deque<Object> open) {
        int length = Array.getLength(array);
        for (int i = 0; i < length && !array.getClass().getComponentType().isPrimitive(); i++) {
            if (Array.get(array, i) != null) {
                open.add(Array.get(array, i));
            }
        }
        return length;
    }

    private static int fieldsOf(Object object, Deque<Object> open) throws IllegalAccessException {
        int count = 0;
        for (Field field : object.getClass().getDeclaredFields()) {
            if (!Modifier.isStatic(field.getModifiers())) {
                count++;
                field.setAccessible(true);
                Object value = field.get(object);
                if (!field.getType().isPrimitive() && value != null) {
                    open.add(value);
                }
            }
        }
        return count;
    }
}
