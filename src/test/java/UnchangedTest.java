import java.util.ArrayList;
import java.util.Arrays;
import java.util.List;

/**
 * A call that throws leaves everything unchanged but the input, the reason and the error position as described: all
 * that can be asked of a book is asked with and without the call, at once, behind undo and behind restore.
 */
public final class UnchangedTest {
    private static final String[] NAMES = {
        "", "new", "harvest", "blend", "spill", "lot", "part", "share", "greatest", "meanVintage", "setLaw", "bottle",
        "forbids", "bottling", "reason", "addCustomer", "wish", "serve", "giveBack", "holds", "listed", "recalled",
        "recalledAgain", "bottlesOf", "ways", "account", "feed", "errorPosition", "undo", "save", "restore",
    };
    private static final int MOST_ASKED = 250;

    /** Something of everything, with an input, a saved book, changes behind it, a reason and an error position. */
    private static final String[] FILLED = {
        "harvest 10 0 0 2000", "harvest 20 1 1 2000", "harvest 30 2 2 5", "mix 0:100+1:100", "mix 3:100+0:50",
        "mix 4:100+1:50", "mix 5:100+0:50", "bottle 0 20 10 0 -1 0", "addCustomer 1", "wish 0 0 7", "serve 0", "save",
        "setLaw 2 700", "bottle 3 10 -1 0 1 -1", "addCustomer 0", "wish 0 1 4", "wish 1 1 9", "serve 1",
        "giveBack 1 1 2", "wish 0 0 8", "spill 4 7", "bottle 0 900 -1 -1 -1 -1", "mix 0:x", "type 0:1+",
    };
    /** No room for anything, and nothing saved. */
    private static final String[] FULL = {
        "harvest 10 0 0 2000", "harvest 20 1 1 2000", "harvest 30 2 2 5", "harvest 4 0 0 5", "harvest 5 0 0 5",
        "harvest 6 0 0 5", "harvest 7 0 0 5", "harvest 8 0 0 5", "harvest 9 0 0 5", "harvest 10 0 0 5",
        "harvest 11 0 0 5", "harvest 12 0 0 5", "mix 0:9+1:9", "mix 0:9+1:9", "mix 0:9+1:9", "mix 0:9+1:9",
        "mix 0:9+1:9", "mix 0:9+1:9", "mix 0:9+1:9", "mix 0:9+1:9", "mix 0:9+1:9", "mix 0:9+1:9", "mix 0:9+1:9",
        "mix 0:9+1:9", "addCustomer 0", "addCustomer 1", "addCustomer 2", "addCustomer 0", "addCustomer 1",
        "addCustomer 2", "addCustomer 0", "addCustomer 1", "bottle 0 1 -1 -1 -1 -1", "bottle 0 1 -1 -1 -1 -1",
        "bottle 0 1 -1 -1 -1 -1", "bottle 0 1 -1 -1 -1 -1", "bottle 0 1 -1 -1 -1 -1", "bottle 0 1 -1 -1 -1 -1",
        "bottle 0 1 -1 -1 -1 -1", "bottle 0 1 -1 -1 -1 -1", "bottle 0 1 -1 -1 -1 -1", "bottle 0 1 -1 -1 -1 -1",
        "bottle 0 1 -1 -1 -1 -1", "bottle 0 1 -1 -1 -1 -1", "bottle 0 1 -1 -1 -1 -1", "bottle 0 1 -1 -1 -1 -1",
        "bottle 0 1 -1 -1 -1 -1", "bottle 0 5 -1 -1 -1 -1", "wish 7 15 4", "serve 15",
        "type 0123456789012345678901234567890123456789",
    };
    private static final String[] EMPTY = {};

    private final String[] world;
    private final List<String> questions = new ArrayList<>();
    private final String[][] ahead;
    private final List<List<String>> due = new ArrayList<>();

    private UnchangedTest(String[] world, String[]... ahead) {
        this.world = world;
        this.ahead = ahead;
        ask();
        for (String[] calls : ahead) {
            due.add(portrait(calls));
        }
    }

    public static void main(String[] args) {
        filled();
        full();
        empty();
        Script.end();
    }

    private static void filled() {
        UnchangedTest test = new UnchangedTest(FILLED, new String[] {}, new String[] {"undo"},
            new String[] {"undo", "undo", "undo", "undo", "undo", "undo", "undo", "undo"}, new String[] {"restore"});
        String[] calls = {
            "harvest 100 0 0 1 ! IAE", "harvest 0 5 0 1 ! IAE", "harvest 0 0 4 1 ! IAE", "harvest 0 0 0 10000 ! IAE",
            "spill 7 1 ! IOOBE", "spill 0 0 ! IAE", "spill 4 9999 ! IAE", "lot 7 0 ! IOOBE", "lot 0 7 ! IAE",
            "part 7 0 0 ! IOOBE", "part 0 0 0 ! NSEE", "part 3 0 2 ! IAE", "share 7 0 0 ! IOOBE", "share 0 4 0 ! IAE",
            "share 0 0 3 ! IAE", "greatest 7 0 ! IOOBE", "greatest 3 2 ! NSEE", "meanVintage 7 ! IOOBE",
            "setLaw 3 500 ! IOOBE", "setLaw 0 499 ! IAE", "bottle 7 1 -1 -1 -1 -1 ! IOOBE",
            "bottle 0 0 -1 -1 -1 -1 ! IAE", "bottle 0 1 -1 -1 0 -1 ! IAE", "bottle 0 1 -1 0 0 -1 ! IAE",
            "forbids 7 -1 -1 -1 -1 ! IOOBE", "forbids 0 100 -1 -1 -1 ! IAE", "forbids 0 -1 0 0 -1 ! IAE",
            "bottling 2 0 ! IOOBE", "bottling 0 9 ! IAE", "addCustomer 3 ! IAE", "wish 2 0 1 ! IOOBE",
            "wish 0 2 1 ! IOOBE", "wish 0 0 3334 ! IAE", "serve 2 ! IOOBE", "giveBack 2 0 1 ! IOOBE",
            "giveBack 0 2 1 ! IOOBE", "giveBack 0 0 0 ! IAE", "giveBack 0 0 8 ! IAE", "holds 2 0 0 ! IOOBE",
            "holds 0 2 0 ! IOOBE", "holds 0 0 3 ! IAE", "listed 2 0 ! IOOBE", "listed 0 1 ! NSEE",
            "recalled 7 ! IOOBE", "recalledAgain 7 ! IOOBE", "bottlesOf 7 -1 ! IOOBE", "bottlesOf 0 2 ! IOOBE",
            "ways 7 0 ! IOOBE", "ways 0 7 ! IOOBE", "account 12 ! IAE",
        };
        for (String call : calls) {
            test.play(call, "account 11 = 4", "reason = 5", "errorPosition = 2");
            test.readOn(call);
        }
        test.play("bottle 0 900 -1 -1 -1 -1 ! ISE", "account 11 = 4", "reason = 5", "errorPosition = 2");
        test.play("bottle 3 1 10 -1 -1 -1 ! ISE", "account 11 = 4", "reason = 6", "errorPosition = 2");
        test.play("bottle 3 1 -1 0 -1 -1 ! ISE", "account 11 = 4", "reason = 7", "errorPosition = 2");
        test.play("bottle 3 1 -1 -1 -1 0 ! ISE", "account 11 = 4", "reason = 8", "errorPosition = 2");
        test.play("blend ! IAE", "account 11 = 0", "reason = 5", "errorPosition = 4");
        test.play("mix 1:0 ! IAE", "account 11 = 0", "reason = 5", "errorPosition = 2");
        test.play("mix 1:1+x ! IAE", "account 11 = 0", "reason = 5", "errorPosition = 8");
        test.play("mix 7:1 ! ISE", "account 11 = 0", "reason = 1", "errorPosition = 2");
        test.play("mix 0:1 ! ISE", "account 11 = 0", "reason = 1", "errorPosition = 2");
        test.play("mix 3:9999 ! ISE", "account 11 = 0", "reason = 2", "errorPosition = 2");
        test.play("mix 6:1 ! ISE", "account 11 = 0", "reason = 3", "errorPosition = 2");
    }

    private static void full() {
        UnchangedTest test = new UnchangedTest(FULL, new String[] {}, new String[] {"undo"});
        String[] calls = {
            "harvest 0 0 0 1 ! ISE", "harvest 100 0 0 1 ! IAE", "addCustomer 0 ! ISE", "addCustomer 3 ! IAE",
            "feed 48 ! ISE", "restore ! ISE", "errorPosition ! NSEE", "reason ! NSEE",
        };
        for (String call : calls) {
            test.play(call, "account 11 = 40", "reason = ! NSEE", "errorPosition = ! NSEE");
        }
        test.play("bottle 0 1 -1 -1 -1 -1 ! ISE", "account 11 = 40", "reason = 9", "errorPosition = ! NSEE");
        test.play("blend ! IAE", "account 11 = 0", "reason = ! NSEE", "errorPosition = 1");
        String[] emptied = Arrays.copyOf(FULL, FULL.length - 1);
        new UnchangedTest(emptied, new String[] {}, new String[] {"undo"}).play("mix 0:1+1:1 ! ISE", "account 11 = 0",
            "reason = 4", "errorPosition = ! NSEE");
    }

    private static void empty() {
        UnchangedTest test = new UnchangedTest(EMPTY, new String[] {}, new String[] {"harvest 1 1 1 1", "undo"});
        String[] calls = {
            "undo ! ISE", "restore ! ISE", "reason ! NSEE", "errorPosition ! NSEE", "lot 0 0 ! IOOBE",
            "spill 0 1 ! IOOBE", "serve 0 ! IOOBE", "wish 0 0 1 ! IOOBE", "harvest 0 0 0 0 ! IAE",
        };
        for (String call : calls) {
            test.play(call, "account 11 = 0", "reason = ! NSEE", "errorPosition = ! NSEE");
        }
        test.play("blend ! IAE", "account 11 = 0", "reason = ! NSEE", "errorPosition = 0");
        test.play("mix 0:1+1:1 ! ISE", "account 11 = 0", "reason = 1", "errorPosition = ! NSEE");
    }

    /** Plays a call with the exception that is due, and then asks everything. */
    private void play(String line, String... different) {
        String[] two = line.split(" (?=! )");
        String name = two[0].split(" ")[0].replace("mix", "blend");
        String title = Arrays.asList(NAMES).indexOf(name) + " what stays behind " + line;
        List<String> calls = new ArrayList<>(Arrays.asList(world));
        calls.add(two[0]);
        List<String> answers = Script.answers(calls);
        compare(title, answers.get(answers.size() - 1), two[0] + " = " + two[1]);
        for (int i = 0; i < ahead.length; i++) {
            List<String> behind = new ArrayList<>(List.of(two[0]));
            behind.addAll(Arrays.asList(ahead[i]));
            List<String> got = portrait(behind.toArray(new String[0]));
            for (int k = 0; k < got.size(); k++) {
                compare(title + ", then " + String.join(", ", behind), got.get(k), dueOf(due.get(i).get(k), different));
            }
        }
    }

    /** What was typed ahead of a call that throws is still there to be read. */
    private void readOn(String line) {
        List<String> calls = new ArrayList<>(Arrays.asList(world));
        calls.add(line.split(" (?=! )")[0]);
        calls.add("mix 1:1");
        List<String> answers = Script.answers(calls);
        compare("26 the input behind " + line, answers.get(answers.size() - 1), "mix 1:1 = 7");
    }

    private static String dueOf(String answer, String... different) {
        for (String other : different) {
            if (answer.split(" = ")[0].equals(other.split(" = ")[0])) {
                return other;
            }
        }
        return answer;
    }

    private static void compare(String title, String got, String due) {
        if (!got.equals(due)) {
            Script.report(title, "the book", got, due);
        }
    }

    /** What all questions are answered behind such calls, in as many books as it takes. */
    private List<String> portrait(String... calls) {
        List<String> answers = new ArrayList<>();
        for (int first = 0; first < questions.size(); first += MOST_ASKED) {
            List<String> asked = questions.subList(first, Math.min(first + MOST_ASKED, questions.size()));
            List<String> all = new ArrayList<>(Arrays.asList(world));
            all.addAll(Arrays.asList(calls));
            all.addAll(asked);
            List<String> got = Script.answers(all);
            answers.addAll(got.subList(got.size() - asked.size(), got.size()));
        }
        return answers;
    }

    private void ask() {
        askTimes(12, "account #");
        questions.addAll(List.of("reason", "errorPosition"));
        List<String> counts = Script.answers(withCounts());
        int lots = countOf(counts, 3);
        int harvests = countOf(counts, 2);
        int bottlings = countOf(counts, 1);
        int customers = countOf(counts, 0);
        for (int lot = 0; lot < lots; lot++) {
            askTimes(7, "lot " + lot + " #");
            askTimes(4, "part " + lot + " # 0");
            askTimes(4, "part " + lot + " # 1");
            askTimes(harvests, "share " + lot + " 0 #");
            askTimes(4, "share " + lot + " 3 #");
            askTimes(4, "greatest " + lot + " #");
            askTimes(lots, "ways " + lot + " #");
            askTimes(customers + 1, "bottlesOf " + lot + " #");
            askTimes(1, "bottlesOf " + lot + " -1");
            askTimes(1, "meanVintage " + lot);
            askTimes(1, "recalled " + lot);
            askTimes(1, "recalledAgain " + lot);
            askTimes(1, "forbids " + lot + " -1 0 1 0");
        }
        askTimes(1, "lot " + lots + " 0");
        for (int bottling = 0; bottling <= bottlings; bottling++) {
            askTimes(9, "bottling " + bottling + " #");
            askTimes(customers + 1, "listed " + bottling + " #");
            for (int customer = 0; customer <= customers; customer++) {
                askTimes(3, "holds " + customer + " " + bottling + " #");
            }
        }
        // The last ones are changes, and the law cannot be asked for in another way.
        questions.addAll(List.of("setLaw 0 1000", "setLaw 1 1000", "setLaw 2 1000"));
    }

    private List<String> withCounts() {
        List<String> calls = new ArrayList<>(Arrays.asList(world));
        calls.addAll(List.of("account 6", "account 7", "account 8", "account 9"));
        return calls;
    }

    private static int countOf(List<String> answers, int fromTheEnd) {
        return Integer.parseInt(answers.get(answers.size() - 1 - fromTheEnd).split(" = ")[1]);
    }

    private void askTimes(int times, String question) {
        for (int number = 0; number < times; number++) {
            questions.add(question.replace("#", String.valueOf(number)));
        }
    }
}
