import java.util.ArrayList;
import java.util.List;

/**
 * What an object with a past answers to all questions, and to runs of calls that bring to light what no question
 * tells: how many answers were given, who is pardoned or cleared, which riddles can't get a need any more.
 */
final class Portrait {
    private static final int TEAMS = 8;
    private static final int RIDDLES = 16;
    private static final int PLACES = 8;
    private static final int MOST_CALLS = 512;
    private static final int QUESTIONS_PER_OBJECT = 200;
    private static final List<List<Step>> FUTURES = futures();

    private Portrait() {
    }

    static List<String> of(List<Step> past) {
        List<String> portrait = new ArrayList<>();
        for (List<Step> future : FUTURES) {
            if (past.size() + future.size() > MOST_CALLS) {
                throw new IllegalStateException("nothing is promised of so many calls");
            }
            PuzzleRegistry x = new PuzzleRegistry();
            past.forEach(step -> step.on(x));
            future.forEach(step -> portrait.add(step.on(x)));
        }
        return portrait;
    }

    /** The first call that is answered in another way in the second portrait; "none" if they are alike. */
    static String firstChange(List<String> before, List<String> then) {
        int at = 0;
        for (List<Step> future : FUTURES) {
            for (Step step : future) {
                if (!before.get(at).equals(then.get(at))) {
                    return step + " answers " + then.get(at) + ", not " + before.get(at);
                }
                at++;
            }
        }
        return "none";
    }

    private static List<List<Step>> futures() {
        List<List<Step>> futures = new ArrayList<>();
        List<Step> questions = questions();
        for (int from = 0; from < questions.size(); from += QUESTIONS_PER_OBJECT) {
            futures.add(questions.subList(from, Math.min(questions.size(), from + QUESTIONS_PER_OBJECT)));
        }
        futures.add(pardons());
        futures.add(clearings());
        futures.add(needs());
        futures.add(sales());
        futures.add(answers());
        futures.add(prizes());
        futures.add(List.of(new Step("pass", 1), new Step("pass", 500), new Step("now")));
        return futures;
    }

    private static List<Step> questions() {
        List<Step> steps = new ArrayList<>();
        steps.add(new Step("now"));
        for (int team = 0; team < TEAMS; team++) {
            for (String question : new String[] {"score", "scoreAnew", "place", "prize", "teamAt"}) {
                steps.add(new Step(question, team));
            }
            for (int other = 0; other < TEAMS; other++) {
                steps.add(new Step("likeness", team, other));
                steps.add(new Step("areLinked", team, other));
            }
            addForRiddles(steps, team, "price", "openedAt", "solvedAt", "isCheated", "isVoid");
        }
        for (int riddle = 0; riddle < RIDDLES; riddle++) {
            steps.add(new Step("isFree", riddle));
            steps.add(new Step("hanging", riddle));
        }
        return steps;
    }

    private static void addForRiddles(List<Step> steps, int team, String... calls) {
        for (int riddle = 0; riddle < RIDDLES; riddle++) {
            for (String call : calls) {
                steps.add(new Step(call, team, riddle));
            }
        }
    }

    /** The bound before, and for each two teams whether they were pardoned. */
    private static List<Step> pardons() {
        List<Step> steps = new ArrayList<>();
        steps.add(new Step("setBound", 1));
        for (int team = 0; team < TEAMS; team++) {
            for (int other = 0; other < team; other++) {
                steps.add(new Step("pardon", other, team));
            }
        }
        return steps;
    }

    private static List<Step> clearings() {
        List<Step> steps = new ArrayList<>();
        for (int team = 0; team < TEAMS; team++) {
            addForRiddles(steps, team, "clear");
        }
        return steps;
    }

    /** The next numbers, and for each riddle which it needs and whether its needs are fixed. */
    private static List<Step> needs() {
        List<Step> steps = new ArrayList<>();
        steps.add(new Step("addTeam"));
        steps.add(new Step("addRiddle", 1, 0, 0, 1));
        for (int riddle = 0; riddle < RIDDLES; riddle++) {
            for (int other = 0; other < riddle; other++) {
                steps.add(new Step("need", riddle, other));
            }
        }
        return steps;
    }

    private static List<Step> sales() {
        List<Step> steps = new ArrayList<>();
        for (int team = 0; team < TEAMS; team++) {
            addForRiddles(steps, team, "hint");
        }
        return steps;
    }

    /** More answers than can be given, so that the refused ones tell how many there were. */
    private static List<Step> answers() {
        List<Step> steps = new ArrayList<>();
        for (int word = 7001; word <= 7002; word++) {
            for (int team = 0; team < TEAMS; team++) {
                for (int riddle = 0; riddle < RIDDLES; riddle++) {
                    steps.add(new Step("answer", team, riddle, word));
                }
            }
        }
        return steps;
    }

    /** The prizes before, then new ones and who gets them. */
    private static List<Step> prizes() {
        List<Step> steps = new ArrayList<>();
        for (int place = 1; place <= PLACES; place++) {
            steps.add(new Step("setPrize", place, 1000 - 100 * place));
        }
        steps.add(new Step("end"));
        for (int team = 0; team < TEAMS; team++) {
            steps.add(new Step("prize", team));
        }
        return steps;
    }
}
