import java.lang.reflect.InvocationTargetException;
import java.lang.reflect.Method;
import java.lang.reflect.Modifier;
import java.util.ArrayList;
import java.util.List;
import java.util.Set;
import java.util.TreeSet;

/**
 * Plays calls, one a line, on one new book: 'spill 0 5 = 95' is a call and its answer, 'spill 9 5 ! IOOBE' one and
 * its exception, 'type 0:1+1:2' feeds each character of a word, 'mix 0:1+1:2 = 2' types and blends, 'times 3 ' ahead
 * of a call that may answer anything but an exception plays it 3 times, and '# ...' is a remark.
 */
final class Script {
    private static final int MOST_CALLS = 512;
    private static final String NEXT_TITLE = "== ";
    private static final Set<Integer> PROMISES = new TreeSet<>();
    private static int scripts = 0;
    private static int wrong = 0;

    private final String title;
    private final BottlingBook book = new BottlingBook();
    private int calls = 0;

    private Script(String title) {
        this.title = title;
    }

    /** The title begins with the number of the promise. */
    static void play(String title, String lines) {
        scripts++;
        PROMISES.add(Integer.parseInt(title.split(" ")[0]));
        Script script = new Script(title);
        script.playLines(lines);
        if (script.calls > MOST_CALLS) {
            report(title, "the script", script.calls + " calls", "at most " + MOST_CALLS);
        }
    }

    /** Plays scripts that each begin with '== ' and a title, all of them behind the same first calls. */
    static void playAll(String first, String titled) {
        String[] parts = ("\n" + titled).split("\n" + NEXT_TITLE);
        if (!parts[0].isBlank()) {
            report("playAll", parts[0], "no title", "a title ahead of all calls");
        }
        for (int i = 1; i < parts.length; i++) {
            String[] two = parts[i].split("\n", 2);
            if (two.length < 2 || two[1].isBlank()) {
                report(two[0], "the script", "no calls", "some calls");
            } else {
                play(two[0], first + two[1]);
            }
        }
    }

    /** What the calls of such lines, on one new book, answer; here nothing is due. */
    static List<String> answers(List<String> calls) {
        Script script = new Script("answers");
        List<String> answers = new ArrayList<>();
        for (String call : calls) {
            if (call.startsWith("type ")) {
                script.type(call.substring("type ".length()));
            } else {
                answers.add(call + " = " + script.playCall(call));
            }
        }
        if (script.calls > MOST_CALLS) {
            report("answers", "the calls", script.calls + " calls", "at most " + MOST_CALLS);
        }
        return answers;
    }

    static Set<Integer> promises() {
        return PROMISES;
    }

    static void end() {
        if (scripts > 0) {
            System.out.print(scripts + " scripts: ");
        }
        System.out.println(wrong == 0 ? "all answers are as due" : wrong + " answers are not as due");
        if (wrong != 0) {
            System.exit(1);
        }
    }

    static void report(String title, String call, String got, String due) {
        wrong++;
        System.out.println(title + ": " + call + " answered " + got + ", due is " + due);
    }

    /** The answer as a word, or the kind of the exception as '! ' and its name. */
    static String answer(Object on, String name, Object... arguments) {
        try {
            return String.valueOf(methodOf(on, name, arguments.length).invoke(on, arguments));
        } catch (InvocationTargetException e) {
            return "! " + shortName(e.getCause().getClass());
        } catch (IllegalAccessException | IllegalArgumentException e) {
            return "no call " + name + ": " + e;
        }
    }

    /** What a line that holds nothing but a call answers, with its name and its arguments divided by blanks. */
    static String answerTo(Object on, String call) {
        String[] words = call.split(" +");
        Object[] arguments = new Object[words.length - 1];
        for (int i = 0; i < arguments.length; i++) {
            int number = Integer.parseInt(words[1 + i]);
            arguments[i] = words[0].equals("feed") ? (Object) (char) number : (Object) number;
        }
        return answer(on, words[0], arguments);
    }

    private static Method methodOf(Object on, String name, int arguments) {
        for (Method method : on.getClass().getDeclaredMethods()) {
            boolean isPrivate = Modifier.isPrivate(method.getModifiers());
            if (!isPrivate && method.getName().equals(name) && method.getParameterCount() == arguments) {
                return method;
            }
        }
        throw new AssertionError("there is no method " + name + " of " + arguments + " arguments");
    }

    private static String shortName(Class<?> kind) {
        if (kind == IllegalArgumentException.class) {
            return "IAE";
        }
        if (kind == IllegalStateException.class) {
            return "ISE";
        }
        if (kind == IndexOutOfBoundsException.class) {
            return "IOOBE";
        }
        return kind == java.util.NoSuchElementException.class ? "NSEE" : kind.getName();
    }

    private void playLines(String lines) {
        for (String line : lines.split("\n")) {
            String plain = line.strip();
            if (!plain.isEmpty() && !plain.startsWith("#")) {
                playLine(plain);
            }
        }
    }

    private void playLine(String line) {
        if (line.startsWith("times ")) {
            String[] words = line.split(" +", 3);
            for (int i = 0; i < Integer.parseInt(words[1]); i++) {
                String got = playCall(words[2]);
                if (got.startsWith("!")) {
                    report(title, line, got, "no exception");
                }
            }
            return;
        }
        if (line.startsWith("type ")) {
            type(line.substring("type ".length()));
            return;
        }
        String[] two = line.split(" = | (?=! )");
        if (two.length != 2) {
            throw new AssertionError(title + ": what is due for " + line + "?");
        }
        String got = playCall(two[0]);
        if (!got.equals(two[1])) {
            report(title, line, got, two[1]);
        }
    }

    private String playCall(String call) {
        calls++;
        if (call.startsWith("mix ")) {
            type(call.substring("mix ".length()));
            return answer(book, "blend");
        }
        return answerTo(book, call);
    }

    private void type(String text) {
        for (int i = 0; i < text.length(); i++) {
            calls++;
            book.feed(text.charAt(i));
        }
    }
}
