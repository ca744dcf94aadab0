import java.lang.reflect.Constructor;
import java.lang.reflect.Field;
import java.lang.reflect.Method;
import java.lang.reflect.Modifier;
import java.util.Arrays;
import java.util.Set;
import java.util.TreeSet;

/** The face of the document, and the rules 1, 5 and 11 of LANGUAGE.md as far as reflection sees them. */
public final class FaceTest {
    private static final String[] FACE = {
        "int harvest(int, int, int, int) IllegalArgumentException, IllegalStateException",
        "int blend() IllegalArgumentException, IllegalStateException",
        "int spill(int, int) IndexOutOfBoundsException, IllegalArgumentException",
        "int lot(int, int) IndexOutOfBoundsException, IllegalArgumentException",
        "int part(int, int, int) IndexOutOfBoundsException, NoSuchElementException, IllegalArgumentException",
        "int share(int, int, int) IndexOutOfBoundsException, IllegalArgumentException",
        "int greatest(int, int) IndexOutOfBoundsException, NoSuchElementException",
        "double meanVintage(int) IndexOutOfBoundsException",
        "int setLaw(int, int) IndexOutOfBoundsException, IllegalArgumentException",
        "int bottle(int, int, int, int, int, int) "
            + "IndexOutOfBoundsException, IllegalArgumentException, IllegalStateException",
        "int forbids(int, int, int, int, int) IndexOutOfBoundsException, IllegalArgumentException",
        "int bottling(int, int) IndexOutOfBoundsException, IllegalArgumentException",
        "int reason() NoSuchElementException",
        "int addCustomer(int) IllegalArgumentException, IllegalStateException",
        "int wish(int, int, int) IndexOutOfBoundsException, IllegalArgumentException",
        "int serve(int) IndexOutOfBoundsException",
        "int giveBack(int, int, int) IndexOutOfBoundsException, IllegalArgumentException",
        "int holds(int, int, int) IndexOutOfBoundsException, IllegalArgumentException",
        "int listed(int, int) IndexOutOfBoundsException, NoSuchElementException",
        "int recalled(int) IndexOutOfBoundsException",
        "int recalledAgain(int) IndexOutOfBoundsException",
        "int bottlesOf(int, int) IndexOutOfBoundsException",
        "int ways(int, int) IndexOutOfBoundsException",
        "int account(int) IllegalArgumentException",
        "int feed(char) IllegalStateException",
        "int errorPosition() NoSuchElementException",
        "int undo() IllegalStateException",
        "int save() ",
        "int restore() IllegalStateException",
    };
    private static final int MOST_CLASSES = 12;
    private static final int MOST_FIELDS = 20;
    private static final int MOST_PARAMETERS = 7;

    public static void main(String[] args) {
        Set<String> face = new TreeSet<>();
        Set<String> publicNames = new TreeSet<>();
        for (Method method : BottlingBook.class.getDeclaredMethods()) {
            if (!Modifier.isPrivate(method.getModifiers())) {
                face.add(signature(method));
                publicNames.add(method.getName());
                due("modifiers of " + method.getName(), method.getModifiers(), Modifier.PUBLIC);
            }
        }
        due("the face", face, new TreeSet<>(Arrays.asList(FACE)));
        due("the class", BottlingBook.class.getModifiers(), Modifier.PUBLIC | Modifier.FINAL);
        Constructor<?>[] constructors = BottlingBook.class.getDeclaredConstructors();
        due("constructors", constructors.length, 1);
        due("the constructor", constructors[0].toString(), "public BottlingBook()");
        Class<?>[] inside = BottlingBook.class.getDeclaredClasses();
        due("at most 12 classes", inside.length < MOST_CLASSES, true);
        checkClass(BottlingBook.class, publicNames);
        for (Class<?> one : inside) {
            due(one + " is private and static", one.getModifiers() & (Modifier.PRIVATE | Modifier.STATIC),
                Modifier.PRIVATE | Modifier.STATIC);
            checkClass(one, publicNames);
        }
        Script.end();
    }

    private static void checkClass(Class<?> one, Set<String> publicNames) {
        int fields = 0;
        for (Field field : one.getDeclaredFields()) {
            due(field + " is private", Modifier.isPrivate(field.getModifiers()), true);
            if (Modifier.isStatic(field.getModifiers())) {
                due(field + " is final", Modifier.isFinal(field.getModifiers()), true);
            } else {
                fields++;
            }
        }
        due(one + " has at most 20 fields", fields <= MOST_FIELDS, true);
        for (Method method : one.getDeclaredMethods()) {
            due(method + " has at most 7 parameters", method.getParameterCount() <= MOST_PARAMETERS, true);
            if (one != BottlingBook.class || Modifier.isPrivate(method.getModifiers())) {
                due(method + " bears the name of a public one", publicNames.contains(method.getName()), false);
            }
        }
    }

    private static String signature(Method method) {
        StringBuilder text = new StringBuilder();
        text.append(method.getReturnType().getSimpleName()).append(' ').append(method.getName());
        text.append('(').append(names(method.getParameterTypes())).append(") ");
        return text.append(names(method.getExceptionTypes())).toString();
    }

    private static String names(Class<?>[] types) {
        StringBuilder text = new StringBuilder();
        for (Class<?> type : types) {
            text.append(text.length() == 0 ? "" : ", ").append(type.getSimpleName());
        }
        return text.toString();
    }

    private static void due(String what, Object got, Object due) {
        if (!got.equals(due)) {
            Script.report("face", what, String.valueOf(got), String.valueOf(due));
        }
    }
}
