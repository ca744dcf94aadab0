import java.lang.reflect.InvocationTargetException;
import java.lang.reflect.Method;

/**
 * Plays calls, one a line, on one new book: 'spill 0 5 = 95' is a call and its answer, 'spill 9 5 ! IOOBE' one and
 * its exception, 'type 0:1+1:2' feeds each character of a word, and '# ...' is a remark.
 */
final class Script {
    private static final int MOST_CALLS = 512;
    private static int wrong = 0;

    private final String title;
    private final BottlingBook book = new BottlingBook();
    private int calls = 0;

    private Script(String title) {
        this.title = title;
    }

    static void play(String title, String lines) {
        Script script = new Script(title);
        for (String line : lines.split("\n")) {
            String plain = line.strip();
            if (!plain.isEmpty() && !plain.startsWith("#")) {
                script.playLine(plain);
            }
        }
        if (script.calls > MOST_CALLS) {
            report(title, "the script", script.calls + " calls", "at most " + MOST_CALLS);
        }
    }

    static void end() {
        System.out.println(wrong == 0 ? "all answers are as due" : wrong + " answers are not as due");
        if (wrong != 0) {
            System.exit(1);
        }
    }

    static void report(String title, String call, String got, String due) {
        wrong++;
        System.out.println(title + ": " + call + " answered " + got + ", due is " + due);
    }

    /** The answer as a word, or the kind of the exception as '! ' and its name. */
    static String answer(Object on, String name, Object... arguments) {
        try {
            return String.valueOf(methodOf(on, name).invoke(on, arguments));
        } catch (InvocationTargetException e) {
            return "! " + shortName(e.getCause().getClass());
        } catch (IllegalAccessException | IllegalArgumentException e) {
            return "no call " + name + ": " + e;
        }
    }

    private static Method methodOf(Object on, String name) {
        for (Method method : on.getClass().getDeclaredMethods()) {
            if (method.getName().equals(name)) {
                return method;
            }
        }
        throw new AssertionError("there is no method " + name);
    }

    private static String shortName(Class<?> kind) {
        if (kind == IllegalArgumentException.class) {
            return "IAE";
        }
        if (kind == IllegalStateException.class) {
            return "ISE";
        }
        if (kind == IndexOutOfBoundsException.class) {
            return "IOOBE";
        }
        return kind == java.util.NoSuchElementException.class ? "NSEE" : kind.getName();
    }

    private void playLine(String line) {
        String[] words = line.split(" +");
        if (words[0].equals("type")) {
            type(words[1]);
            return;
        }
        int count = 0;
        while (!words[1 + count].equals("=") && !words[1 + count].equals("!")) {
            count++;
        }
        Object[] arguments = new Object[count];
        for (int i = 0; i < count; i++) {
            arguments[i] = words[0].equals("feed") ? (Object) (char) Integer.parseInt(words[1 + i])
                : (Object) Integer.parseInt(words[1 + i]);
        }
        String due = words[1 + count].equals("!") ? "! " + words[2 + count] : words[2 + count];
        calls++;
        String got = answer(book, words[0], arguments);
        if (!got.equals(due)) {
            report(title, line, got, due);
        }
    }

    private void type(String text) {
        for (int i = 0; i < text.length(); i++) {
            calls++;
            book.feed(text.charAt(i));
        }
    }
}
