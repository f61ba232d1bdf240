import java.util.Map;
import java.util.TreeMap;

/** Runs of 512 calls, the same at every start, in which each call must answer as the model does. */
public final class ModelTest {
    private static final int RUNS = 400;
    private static final int CALLS = 512;
    private static final int EARLIEST_END = 380;
    /** A power of two: the first riddles have their number modulo this as their key. */
    private static final int KEYS = 4;
    private static final int[] ODD = {-1, 0, 1, 8, 16, 20, 21, 40, 41, 50, 51, 100, 101, 200, 500, 501, 1000, 1001,
        9999, 10000, Integer.MAX_VALUE, Integer.MIN_VALUE};
    /** What the runs must have met, so that they don't become too tame. */
    private static final String[] DUE_KINDS = {"answer throws.IllegalArgumentException",
        "answer throws.IllegalStateException", "answer throws.IndexOutOfBoundsException", "answer false", "answer true",
        "hint throws.IllegalStateException", "price throws.NoSuchElementException", "clear true", "clear false",
        "clear throws.IllegalStateException", "isVoid true", "isFree true", "isCheated true", "areLinked true",
        "need 4", "openedAt 100", "end 2", "likeness 9", "scoreAnew -20",
        "need throws.IllegalStateException", "prize throws.IllegalStateException", "pardon true", "pardon false"};

    private final Check check = new Check();
    private final Map<String, Integer> kinds = new TreeMap<>();
    private PuzzleRegistry program;
    private Model model;
    private long seed;
    private int teams;
    private int riddles;
    private int words;
    private int keen;

    public static void main(String[] args) {
        ModelTest test = new ModelTest();
        for (int run = 0; run < RUNS; run++) {
            test.run(run);
        }
        for (String kind : DUE_KINDS) {
            test.check.holds("some call of " + kind, test.kinds.containsKey(kind));
        }
        test.check.finish();
    }

    private void run(int number) {
        program = new PuzzleRegistry();
        model = new Model();
        seed = number * 7919L + 17;
        teams = 2 + number % 7;
        riddles = 1 + number % 16;
        words = 4 + number % 5;
        keen = number % 3 * 2;
        int needs = number % 4 == 0 ? 0 : riddles;
        int calls = 0;
        for (; calls < teams; calls++) {
            same("addTeam", program::addTeam, model::addTeam);
        }
        for (int made = 0; made < riddles; made++, calls++) {
            addRiddle(made % KEYS, made % 3 == 0 ? 0 : below(30));
        }
        for (int made = 0; made < needs; made++, calls++) {
            need();
        }
        for (int place = 1; place <= teams; place++, calls++) {
            setPrize(place, below(200));
        }
        for (; calls < CALLS; calls++) {
            step(calls);
        }
    }

    private void step(int calls) {
        int pick = calls < EARLIEST_END ? below(99) : below(100) / 2 + 50;
        if (pick < 45) {
            play();
        } else if (pick < 55) {
            judge();
        } else if (pick < 94) {
            look();
        } else if (pick < 99) {
            build();
        } else {
            same("end", program::end, model::end);
        }
    }

    private void build() {
        int pick = below(8);
        if (pick < 2) {
            int minutes = oddOr(60);
            same("pass", () -> program.pass(minutes), () -> model.pass(minutes));
        } else if (pick < 6) {
            need();
        } else if (pick == 6) {
            same("addTeam", program::addTeam, model::addTeam);
        } else {
            addRiddle(oddOr(KEYS), oddOr(20));
        }
    }

    private void addRiddle(int key, int least) {
        int points = 1 + oddOr(20);
        int price = 1 + oddOr(30);
        same("addRiddle", () -> program.addRiddle(points, key, least, price),
            () -> model.addRiddle(points, key, least, price));
    }

    private void need() {
        int riddle = oddOr(riddles);
        int other = oddOr(Math.max(1, riddle));
        same("need", () -> program.need(riddle, other), () -> model.need(riddle, other));
    }

    private void setPrize(int place, int coins) {
        same("setPrize", () -> program.setPrize(place, coins), () -> model.setPrize(place, coins));
    }

    private void play() {
        int team = oddOr(teams);
        int riddle = oddOr(riddles);
        int pick = below(12);
        if (pick < 9) {
            int word = pick < keen ? riddle & KEYS - 1 : oddOr(words);
            same("answer", () -> program.answer(team, riddle, word), () -> model.answer(team, riddle, word));
        } else if (pick < 10) {
            same("hint", () -> program.hint(team, riddle), () -> model.hint(team, riddle));
        } else {
            int minutes = 1 + below(9);
            same("pass", () -> program.pass(minutes), () -> model.pass(minutes));
        }
    }

    private void judge() {
        int team = oddOr(teams);
        int other = oddOr(teams);
        int riddle = oddOr(riddles);
        int pick = below(4);
        if (pick == 0) {
            same("pardon", () -> program.pardon(team, other), () -> model.pardon(team, other));
        } else if (pick == 1) {
            int bound = oddOr(8);
            same("setBound", () -> program.setBound(bound), () -> model.setBound(bound));
        } else if (pick == 2) {
            same("clear", () -> program.clear(team, riddle), () -> model.clear(team, riddle));
        } else {
            setPrize(oddOr(9), oddOr(100));
        }
    }

    private void look() {
        int team = oddOr(teams);
        int other = oddOr(teams);
        int riddle = oddOr(riddles);
        switch (below(15)) {
            case 0 -> same("now", program::now, model::now);
            case 1 -> same("price", () -> program.price(team, riddle), () -> model.price(team, riddle));
            case 2 -> same("openedAt", () -> program.openedAt(team, riddle), () -> model.openedAt(team, riddle));
            case 3 -> same("solvedAt", () -> program.solvedAt(team, riddle), () -> model.solvedAt(team, riddle));
            case 4 -> same("isFree", () -> program.isFree(riddle), () -> model.isFree(riddle));
            case 5 -> same("likeness", () -> program.likeness(team, other), () -> model.likeness(team, other));
            case 6 -> same("areLinked", () -> program.areLinked(team, other), () -> model.areLinked(team, other));
            case 7 -> same("isCheated", () -> program.isCheated(team, riddle), () -> model.isCheated(team, riddle));
            case 8 -> same("isVoid", () -> program.isVoid(team, riddle), () -> model.isVoid(team, riddle));
            case 9 -> same("hanging", () -> program.hanging(riddle), () -> model.hanging(riddle));
            case 10 -> same("score", () -> program.score(team), () -> model.score(team));
            case 11 -> same("scoreAnew", () -> program.scoreAnew(team), () -> model.scoreAnew(team));
            case 12 -> same("place", () -> program.place(team), () -> model.place(team));
            case 13 -> same("teamAt", () -> program.teamAt(team), () -> model.teamAt(team));
            default -> same("prize", () -> program.prize(team), () -> model.prize(team));
        }
    }

    private void same(String call, Check.Call program, Check.Call model) {
        String want = Check.outcome(model);
        check.due(call, want, program);
        kinds.merge(call + " " + want, 1, Integer::sum);
    }

    private int oddOr(int bound) {
        return below(25) == 0 ? ODD[below(ODD.length)] : below(bound);
    }

    private int below(int bound) {
        seed = seed * 6364136223846793005L + 1442695040888963407L;
        return (int) ((seed >>> 33) % bound);
    }
}
