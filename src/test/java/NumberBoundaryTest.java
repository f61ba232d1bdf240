/** "IndexOutOfBoundsException: there is no such riddle or team": each call, each place of a number, empty to full. */
public final class NumberBoundaryTest {
    private static final Class<? extends RuntimeException> NONE_SUCH = IndexOutOfBoundsException.class;
    private static final String[] OF_A_TEAM = {"score", "scoreAnew", "place", "prize"};
    private static final String[] OF_TEAMS = {"pardon", "likeness", "areLinked"};
    private static final String[] OF_A_RIDDLE = {"isFree", "hanging"};
    private static final String[] OF_RIDDLES = {"need"};
    private static final String[] OF_BOTH = {"answer", "hint", "price", "openedAt", "solvedAt", "clear", "isCheated",
        "isVoid"};

    private static final Check check = new Check();

    public static void main(String[] args) {
        int[][] sizes = {{0, 0}, {1, 0}, {0, 1}, {3, 5}, {8, 16}};
        for (int[] size : sizes) {
            numbers(OF_A_TEAM, size, size[0]);
            numbers(OF_TEAMS, size, size[0], size[0]);
            numbers(OF_A_RIDDLE, size, size[1]);
            numbers(OF_RIDDLES, size, size[1], size[1]);
            numbers(OF_BOTH, size, size[0], size[1]);
        }
        check.finish();
    }

    private static void numbers(String[] calls, int[] size, int... counts) {
        for (String call : calls) {
            for (int place = 0; place < counts.length; place++) {
                refusesWrongNumbers(call, size, counts, place);
            }
            knowsRightNumbers(call, size, counts);
        }
    }

    private static void refusesWrongNumbers(String call, int[] size, int[] counts, int place) {
        int[] wrong = Run.outside(0, counts[place] - 1);
        run(call, size).refusedFor(wrong, NONE_SUCH, place, call, arguments(call, new int[counts.length]))
            .refused(NONE_SUCH, call, arguments(call, counts)).does("end")
            .refused(NONE_SUCH, call, arguments(call, counts));
    }

    /** Of the first and the last number the call may say something else, but not that there is none such. */
    private static void knowsRightNumbers(String call, int[] size, int[] counts) {
        int[] first = new int[counts.length];
        int[] last = new int[counts.length];
        for (int at = 0; at < counts.length; at++) {
            if (counts[at] == 0) {
                return;
            }
            last[at] = counts[at] - 1;
        }
        for (int[] numbers : new int[][] {first, last}) {
            PuzzleRegistry x = new PuzzleRegistry();
            for (int team = 0; team < size[0]; team++) {
                x.addTeam();
            }
            for (int riddle = 0; riddle < size[1]; riddle++) {
                x.addRiddle(10, riddle, 0, 20);
            }
            Step step = new Step(call, arguments(call, numbers));
            check.holds(step + " is known", !step.on(x).equals(Check.named(NONE_SUCH)));
        }
    }

    private static Run run(String call, int[] size) {
        return new Run(check, size[0] + " teams, " + size[1] + " riddles: " + call).with(size[0], size[1]);
    }

    /** An answer takes a word too. */
    private static int[] arguments(String call, int[] numbers) {
        return call.equals("answer") ? new int[] {numbers[0], numbers[1], 0} : numbers;
    }
}
