import java.util.Map;
import java.util.TreeMap;

/** Runs of 512 calls, the same at every start, in which each call must answer as the model does. */
public final class ModelTest {
    private static final int RUNS = 400;
    private static final int CALLS = 512;
    private static final int[] ODD = {-1, 0, 1, 8, 16, 20, 21, 40, 41, 50, 51, 100, 101, 200, 500, 501, 1000, 1001,
        9999, 10000, Integer.MAX_VALUE, Integer.MIN_VALUE};
    /** Not met in such runs: the minute beyond 20000 needs a run of its own, which PromiseTest makes. */
    private static final String[] DUE_KINDS = {"answer throws.IllegalArgumentException",
        "answer throws.IllegalStateException", "answer throws.IndexOutOfBoundsException", "answer false", "answer true",
        "hint throws.IllegalStateException", "price throws.NoSuchElementException", "clear true", "clear false",
        "clear throws.IllegalStateException", "isVoid true", "isFree true", "isCheated true", "areLinked true",
        "need throws.IllegalStateException", "prize throws.IllegalStateException", "pardon true", "pardon false"};

    private final Check check = new Check();
    private final Map<String, Integer> kinds = new TreeMap<>();
    private PuzzleRegistry program;
    private Model model;
    private long seed;
    private int teams;
    private int riddles;
    private boolean patient;

    public static void main(String[] args) {
        ModelTest test = new ModelTest();
        for (int run = 0; run < RUNS; run++) {
            test.run(run);
        }
        for (String kind : DUE_KINDS) {
            test.check.holds("some call of " + kind, test.kinds.containsKey(kind));
        }
        test.check.finish();
    }

    private void run(int number) {
        program = new PuzzleRegistry();
        model = new Model();
        seed = number * 7919L + 17;
        teams = 2 + number % 7;
        riddles = 1 + number % 16;
        patient = number % 3 == 0;
        int calls = 0;
        for (; calls < teams; calls++) {
            same("addTeam", program::addTeam, model::addTeam);
        }
        for (; calls < teams + riddles; calls++) {
            build();
        }
        for (; calls < CALLS; calls++) {
            step(calls);
        }
    }

    private void step(int calls) {
        int pick = below(100);
        if (pick < 40) {
            play();
        } else if (pick < 50) {
            judge();
        } else if (pick < 94) {
            look();
        } else if (pick < 99 || calls < 400) {
            build();
        } else {
            same("end", program::end, model::end);
        }
    }

    private void build() {
        int pick = below(8);
        int one = oddOr(riddles);
        int two = oddOr(Math.max(1, one));
        if (pick == 0) {
            int minutes = oddOr(20);
            same("pass", () -> program.pass(minutes), () -> model.pass(minutes));
        } else if (pick < 3) {
            same("need", () -> program.need(one, two), () -> model.need(one, two));
        } else if (pick == 3) {
            same("addTeam", program::addTeam, model::addTeam);
        } else {
            int points = 1 + oddOr(20);
            int key = oddOr(3);
            int least = below(3) * below(6);
            int price = 1 + oddOr(12);
            same("addRiddle", () -> program.addRiddle(points, key, least, price),
                () -> model.addRiddle(points, key, least, price));
        }
    }

    private void play() {
        int team = oddOr(teams);
        int riddle = oddOr(riddles);
        int pick = below(10);
        if (pick < 7) {
            int word = oddOr(patient ? 9 : 5);
            same("answer", () -> program.answer(team, riddle, word), () -> model.answer(team, riddle, word));
        } else if (pick < 9) {
            same("hint", () -> program.hint(team, riddle), () -> model.hint(team, riddle));
        } else {
            int minutes = 1 + below(9);
            same("pass", () -> program.pass(minutes), () -> model.pass(minutes));
        }
    }

    private void judge() {
        int team = oddOr(teams);
        int other = oddOr(teams);
        int riddle = oddOr(riddles);
        int pick = below(4);
        if (pick == 0) {
            same("pardon", () -> program.pardon(team, other), () -> model.pardon(team, other));
        } else if (pick == 1) {
            int bound = oddOr(8);
            same("setBound", () -> program.setBound(bound), () -> model.setBound(bound));
        } else if (pick == 2) {
            same("clear", () -> program.clear(team, riddle), () -> model.clear(team, riddle));
        } else {
            int coins = oddOr(100);
            int place = oddOr(9);
            same("setPrize", () -> program.setPrize(place, coins), () -> model.setPrize(place, coins));
        }
    }

    private void look() {
        int team = oddOr(teams);
        int other = oddOr(teams);
        int riddle = oddOr(riddles);
        switch (below(15)) {
            case 0 -> same("now", program::now, model::now);
            case 1 -> same("price", () -> program.price(team, riddle), () -> model.price(team, riddle));
            case 2 -> same("openedAt", () -> program.openedAt(team, riddle), () -> model.openedAt(team, riddle));
            case 3 -> same("solvedAt", () -> program.solvedAt(team, riddle), () -> model.solvedAt(team, riddle));
            case 4 -> same("isFree", () -> program.isFree(riddle), () -> model.isFree(riddle));
            case 5 -> same("likeness", () -> program.likeness(team, other), () -> model.likeness(team, other));
            case 6 -> same("areLinked", () -> program.areLinked(team, other), () -> model.areLinked(team, other));
            case 7 -> same("isCheated", () -> program.isCheated(team, riddle), () -> model.isCheated(team, riddle));
            case 8 -> same("isVoid", () -> program.isVoid(team, riddle), () -> model.isVoid(team, riddle));
            case 9 -> same("hanging", () -> program.hanging(riddle), () -> model.hanging(riddle));
            case 10 -> same("score", () -> program.score(team), () -> model.score(team));
            case 11 -> same("scoreAnew", () -> program.scoreAnew(team), () -> model.scoreAnew(team));
            case 12 -> same("place", () -> program.place(team), () -> model.place(team));
            case 13 -> same("teamAt", () -> program.teamAt(team), () -> model.teamAt(team));
            default -> same("prize", () -> program.prize(team), () -> model.prize(team));
        }
    }

    private void same(String call, Check.Call program, Check.Call model) {
        String want = Check.outcome(model);
        check.due(call, want, program);
        kinds.merge(call + " " + want, 1, Integer::sum);
    }

    private int oddOr(int bound) {
        return below(25) == 0 ? ODD[below(ODD.length)] : below(bound);
    }

    private int below(int bound) {
        seed = seed * 6364136223846793005L + 1442695040888963407L;
        return (int) ((seed >>> 33) % bound);
    }
}
