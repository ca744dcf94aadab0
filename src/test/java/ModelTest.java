/** All promises: long runs of calls, each of which the program and the model must answer alike. */
public final class ModelTest {
    private static final int RUNS = 3000;
    private static final int CALLS = 512;
    private static final int MOST_REPORTS = 10;
    private static final String[] ALL = {
        "type", "type", "type", "type", "type", "type", "harvest", "harvest", "spill", "lot", "part", "share",
        "greatest", "meanVintage", "setLaw", "bottle", "forbids", "bottling", "reason", "addCustomer", "wish", "serve",
        "giveBack", "holds", "listed", "recalled", "recalledAgain", "bottlesOf", "ways", "account", "errorPosition",
        "undo", "save", "restore", "blend",
    };
    // Two shorter choices, as with all calls alike books stay too small to meet their limits.
    private static final String[] OF_LOTS = {
        "type", "type", "type", "type", "harvest", "lot", "part", "share", "greatest", "meanVintage", "ways",
        "recalled", "recalledAgain", "forbids", "bottle", "account", "undo", "restore",
    };
    private static final String[] OF_BOTTLES = {
        "bottle", "bottle", "bottle", "bottle", "addCustomer", "wish", "wish", "wish", "serve", "serve", "giveBack",
        "giveBack", "holds", "holds", "listed", "bottling", "bottling", "bottlesOf", "recalled", "recalledAgain",
        "setLaw", "account", "type", "undo", "save", "restore", "reason",
    };
    private static final String[][] CHOICES = {ALL, OF_LOTS, OF_BOTTLES};
    private static final int[] EXTREMES = {
        Integer.MIN_VALUE, Integer.MIN_VALUE + 1, -1000, -2, -1, 24, 32, 33, 64, 512, 10000, 65536, Integer.MAX_VALUE,
    };
    private static final String SIGNS = "0123456789:+x 09:+:+\u0000\u0660";

    private final int run;
    private final String[] choice;
    private final BottlingBook book = new BottlingBook();
    private final Model model = new Model();
    private final StringBuilder calls = new StringBuilder();
    private long seed;
    private int made = 0;
    private boolean agree = true;

    private ModelTest(int run) {
        this.run = run;
        this.choice = CHOICES[run % CHOICES.length];
        this.seed = run * 7919L + 17;
    }

    public static void main(String[] args) {
        int reports = 0;
        for (int run = 0; run < RUNS && reports < MOST_REPORTS; run++) {
            ModelTest test = new ModelTest(run);
            test.play();
            reports += test.agree ? 0 : 1;
        }
        Script.end();
    }

    private void play() {
        for (int start = below(4); start >= 0; start--) {
            call("harvest", below(100), below(5), below(4), 1 + below(9999));
        }
        while (agree && made < CALLS) {
            callAny();
        }
    }

    private int below(int bound) {
        seed = seed * 6364136223846793005L + 1442695040888963407L;
        return (int) ((seed >>> 33) % bound);
    }

    private void call(String name, Object... arguments) {
        if (!agree || made >= CALLS) {
            return;
        }
        made++;
        String got = Script.answer(book, name, arguments);
        String due = Script.answer(model, name, arguments);
        calls.append(name);
        for (Object argument : arguments) {
            calls.append(' ').append(argument instanceof Character ? (int) (Character) argument : argument);
        }
        calls.append(" -> ").append(due).append('\n');
        if (!got.equals(due)) {
            agree = false;
            Script.report("run " + run, "the last of these calls:\n" + calls, got, due);
        }
    }

    /** Mostly a number below the bound, sometimes one at its edges or far outside. */
    private int number(int bound) {
        int choice = below(60);
        if (choice == 0) {
            return EXTREMES[below(EXTREMES.length)];
        }
        if (choice == 1) {
            return bound;
        }
        return choice == 2 ? -1 : below(Math.max(1, bound));
    }

    private int lot() {
        return number(model.account(6));
    }

    private int bottling() {
        return number(model.account(8));
    }

    private int customer() {
        return number(model.account(9));
    }

    private void typeAndBlend() {
        StringBuilder text = new StringBuilder();
        int parts = 2 + (choice == ALL || below(4) == 0 ? below(3) : 0);
        int lots = Math.max(1, model.account(6));
        int first = below(lots);
        int step = 1 + below(3);
        for (int part = 0; part < parts; part++) {
            int lot = below(30) == 0 ? below(30) : (first + part * step) % lots;
            int quarters = 1 + below(below(8) == 0 ? 9999 : below(2) == 0 ? 300 : 9);
            text.append(part == 0 ? "" : "+").append(lot).append(':').append(below(60) == 0 ? 0 : quarters);
        }
        if (below(6) == 0) {
            text.setCharAt(below(text.length()), SIGNS.charAt(below(SIGNS.length())));
        }
        if (below(10) == 0) {
            text.setLength(below(text.length() + 1));
        }
        for (int i = 0; i < text.length(); i++) {
            call("feed", text.charAt(i));
        }
        call("blend");
        call("errorPosition");
        call("reason");
    }

    private void callAny() {
        String name = choice[below(choice.length)];
        switch (name) {
            case "type" -> typeAndBlend();
            case "harvest" -> call(name, number(100), number(5), number(4), 1 + number(9999));
            case "spill" -> call(name, lot(), 1 + number(below(3) == 0 ? 9999 : 40));
            case "lot" -> call(name, lot(), number(7));
            case "part" -> call(name, lot(), number(4), number(2));
            case "share" -> share();
            case "greatest" -> call(name, lot(), number(4));
            case "setLaw" -> call(name, number(3), 500 + number(501));
            case "bottle" -> bottle();
            case "forbids" -> forbids();
            case "bottling" -> call(name, bottling(), number(9));
            case "addCustomer" -> call(name, number(3));
            case "wish" -> call(name, customer(), bottling(), number(below(3) == 0 ? 3334 : 60));
            case "serve" -> call(name, bottling());
            case "giveBack" -> call(name, customer(), bottling(), 1 + number(20));
            case "holds" -> call(name, customer(), bottling(), number(3));
            case "listed" -> call(name, bottling(), number(4));
            case "bottlesOf" -> call(name, lot(), below(3) == 0 ? -1 : customer());
            case "ways" -> call(name, lot(), lot());
            case "account" -> call(name, number(12));
            case "meanVintage", "recalled", "recalledAgain" -> call(name, lot());
            case "save", "restore", "undo" -> seldom(name);
            default -> call(name);
        }
    }

    private void seldom(String name) {
        if (below(choice == ALL ? 3 : 9) == 0) {
            call(name);
        }
    }

    private void share() {
        int what = number(4);
        int[] bounds = {model.account(7), 100, 5, 4};
        call("share", lot(), what, number(what >= 0 && what < 4 ? bounds[what] : 4));
    }

    /** A number that a label may name in earnest: often that of a harvest with a great share, found by asking. */
    private int named(int lot, int what, int bound) {
        if (below(3) == 0 || lot < 0 || lot >= model.account(6)) {
            return below(2) == 0 ? -1 : number(bound);
        }
        int best = 0;
        for (int number = 0; number < bound; number++) {
            best = model.share(lot, what, number) > model.share(lot, what, best) ? number : best;
        }
        return best;
    }

    private int secondGrape() {
        return below(3) > 0 ? -1 : number(5);
    }

    private void bottle() {
        int lot = lot();
        call("bottle", lot, 1 + number(below(4) == 0 ? 3333 : 100), named(lot, 1, 100), named(lot, 2, 5), secondGrape(),
            named(lot, 3, 4));
    }

    private void forbids() {
        int lot = lot();
        call("forbids", lot, named(lot, 1, 100), named(lot, 2, 5), secondGrape(), named(lot, 3, 4));
    }
}
