import java.util.ArrayList;
import java.util.List;

/** A run of calls on a new object, told for one sentence of the document: the program and the model must answer so. */
final class Run {
    private static final int MOST_CALLS = 512;
    private static final int LONGEST_PASS = 500;

    private final Check check;
    private final String sentence;
    private final PuzzleRegistry program = new PuzzleRegistry();
    private final Model model = new Model();
    private final List<Step> past = new ArrayList<>();
    private List<String> portrait;
    private int calls;

    Run(Check check, String sentence) {
        this.check = check;
        this.sentence = sentence;
    }

    /** Makes a call and holds its answer against the one that is due. */
    Run due(Object answer, String name, int... args) {
        compare(remember(name, args), answer);
        return this;
    }

    /** Makes a call that must not be refused. */
    Run does(String name, int... args) {
        Step step = remember(name, args);
        String answer = step.on(model);
        check.holds(sentence + ": " + step + " of the model is taken, not " + answer, !answer.startsWith("throws."));
        check.due(sentence + ": " + step, answer, () -> make(step));
        return this;
    }

    /** Makes a call that must throw just this exception and change nothing. */
    Run refused(Class<? extends RuntimeException> kind, String name, int... args) {
        Step step = new Step(name, args);
        compare(step, Check.named(kind));
        if (portrait == null) {
            portrait = Portrait.of(past);
        }
        List<Step> pastWithIt = new ArrayList<>(past);
        pastWithIt.add(step);
        check.due(sentence + ": first change after " + step, "none",
            () -> Portrait.firstChange(portrait, Portrait.of(pastWithIt)));
        return this;
    }

    /** The call is refused with each of these values at one place of its arguments. */
    Run refusedFor(int[] values, Class<? extends RuntimeException> kind, int place, String name, int... args) {
        for (int value : values) {
            int[] changed = args.clone();
            changed[place] = value;
            refused(kind, name, changed);
        }
        return this;
    }

    /** Teams, and riddles of 10 points whose key is their number, without a least time, at a first price of 20. */
    Run with(int teams, int riddles) {
        for (int team = 0; team < teams; team++) {
            due(team, "addTeam");
        }
        for (int riddle = 0; riddle < riddles; riddle++) {
            due(riddle, "addRiddle", 10, riddle, 0, 20);
        }
        return this;
    }

    /** Both teams give that many wrong answers, the same ones, to a riddle: words from 5000 on. */
    Run share(int team, int other, int riddle, int answers) {
        for (int word = 5000; word < 5000 + answers; word++) {
            does("answer", team, riddle, word);
            does("answer", other, riddle, word);
        }
        return this;
    }

    /** Wrong answers of the team 0 to the riddle 0, all different: words from 3000 on. */
    Run guess(int answers) {
        for (int word = 3000; word < 3000 + answers; word++) {
            due(false, "answer", 0, 0, word);
        }
        return this;
    }

    Run passTo(int minute) {
        while (model.now() < minute) {
            does("pass", Math.min(LONGEST_PASS, minute - model.now()));
        }
        return this;
    }

    private Step remember(String name, int... args) {
        Step step = new Step(name, args);
        past.add(step);
        portrait = null;
        return step;
    }

    private String make(Step step) {
        calls++;
        if (calls > MOST_CALLS) {
            throw new IllegalStateException("nothing is promised of so many calls");
        }
        return step.on(program);
    }

    private void compare(Step step, Object answer) {
        check.due(sentence + ": " + step, answer, () -> make(step));
        check.due(sentence + ": " + step + " of the model", answer, () -> step.on(model));
    }

    /** What lies outside a range: next to it, far from it, and what a narrower number would take for its ends. */
    static int[] outside(int least, int most) {
        return new int[] {least - 1, most + 1, -most - 1, least + 65536, most - 65536, Integer.MIN_VALUE,
            Integer.MIN_VALUE + least, Integer.MAX_VALUE};
    }
}
