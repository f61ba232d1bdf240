/** The sentences of the promises 1 to 7 that name a boundary: a new object, minutes, riddles, needs, teams, the end. */
public final class BuildBoundaryTest {
    private static final Class<? extends RuntimeException> NONE_SUCH = IndexOutOfBoundsException.class;
    private static final Class<? extends RuntimeException> BAD = IllegalArgumentException.class;
    private static final Class<? extends RuntimeException> STATE = IllegalStateException.class;
    private static final int POINTS = 0;
    private static final int KEY = 1;
    private static final int LEAST = 2;
    private static final int PRICE = 3;

    private static final Check check = new Check();

    public static void main(String[] args) {
        beginsInTheMinuteZero();
        beginsWithoutRiddlesAndTeams();
        beginsWithTheBoundThreeAndNoPrizes();
        minutesFromOneToFiveHundred();
        notAboveTwentyThousand();
        stateOfPassComesLast();
        pointsFromOneToFifty();
        keyFromZeroToNines();
        leastTimeFromZeroToHundred();
        firstPriceFromOneToForty();
        atMostSixteenRiddles();
        noRiddleAfterTheEnd();
        stateOfAddRiddleComesLast();
        needsALowerNumber();
        needsAllLowerOnes();
        needsItAlready();
        needAfterAnAnswer();
        needAfterAHint();
        needAfterRefusedCalls();
        needAfterTheEnd();
        needThrowsTheFirstThatApplies();
        atMostEightTeams();
        noTeamAfterTheEnd();
        endsOnce();
        endTellsHowManyAreFree();
        nothingIsAnsweredOrSoldAfterTheEnd();
        check.finish();
    }

    private static Run run(String sentence) {
        return new Run(check, sentence);
    }

    private static void beginsInTheMinuteZero() {
        run("1 begins in the minute 0").due(0, "now");
        run("1 opens and is solved in the minute 0").with(1, 1)
            .due(0, "openedAt", 0, 0).due(true, "answer", 0, 0, 0).due(0, "solvedAt", 0, 0);
    }

    private static void beginsWithoutRiddlesAndTeams() {
        Run empty = run("1 without riddles and teams").due(-1, "teamAt", 0);
        for (String call : new String[] {"isFree", "hanging", "score", "scoreAnew", "place", "prize"}) {
            empty.refused(NONE_SUCH, call, 0);
        }
        for (String call : new String[] {"need", "hint", "price", "openedAt", "solvedAt", "clear", "pardon", "likeness",
            "areLinked", "isCheated", "isVoid"}) {
            empty.refused(NONE_SUCH, call, 0, 0);
        }
        empty.refused(NONE_SUCH, "answer", 0, 0, 0);
        run("1 the first team").due(0, "addTeam").due(0, "teamAt", 0).due(-1, "teamAt", 1);
        run("1 the first riddle").due(0, "addRiddle", 1, 0, 0, 1).due(false, "isFree", 0).refused(NONE_SUCH, "isFree", 1);
    }

    private static void beginsWithTheBoundThreeAndNoPrizes() {
        run("1 the bound is 3 at first").due(3, "setBound", 3);
        Run prizes = run("1 a prize is 0 at first");
        for (int place = 1; place <= 8; place++) {
            prizes.due(0, "setPrize", place, place);
        }
        run("1 nobody is pardoned at first").with(2, 0).due(true, "pardon", 0, 1);
        run("1 needs none at first").with(1, 2).due(0, "hanging", 0).due(1, "need", 1, 0);
    }

    private static void minutesFromOneToFiveHundred() {
        run("2 minutes: 1 to 500").due(1, "pass", 1).due(501, "pass", 500).due(1001, "pass", 500)
            .refusedFor(Run.outside(1, 500), BAD, 0, "pass", 1).due(1001, "now");
    }

    private static void notAboveTwentyThousand() {
        run("2 just up to 20000").passTo(19500).due(20000, "pass", 500)
            .refused(STATE, "pass", 1).refused(STATE, "pass", 500).due(20000, "now");
        run("2 the last minute alone").passTo(19999).refused(STATE, "pass", 2).refused(STATE, "pass", 500)
            .due(19999, "now").due(20000, "pass", 1).refused(STATE, "pass", 1);
        run("2 one too many").passTo(19501).refused(STATE, "pass", 500).due(20000, "pass", 499);
        run("2 up to 20000 after the end too").does("end").passTo(20000).refused(STATE, "pass", 1).due(20000, "now");
        run("2 all goes on in the minute 20000").passTo(20000).with(1, 2).due(1, "need", 1, 0)
            .due(0, "openedAt", 0, 0).due(1, "hint", 0, 0).due(true, "answer", 0, 0, 0).due(20000, "solvedAt", 0, 0)
            .due(20000, "openedAt", 0, 1).due(20, "price", 0, 1).due(9, "score", 0);
    }

    private static void stateOfPassComesLast() {
        run("2 the range comes before 20000").passTo(20000).refusedFor(Run.outside(1, 500), BAD, 0, "pass", 1)
            .refused(STATE, "pass", 1);
    }

    private static void pointsFromOneToFifty() {
        run("4 points: 1 to 50").with(1, 0).due(0, "addRiddle", 1, 7, 0, 1).due(1, "addRiddle", 50, 7, 0, 1)
            .refusedFor(Run.outside(1, 50), BAD, POINTS, "addRiddle", 1, 7, 0, 1)
            .does("answer", 0, 0, 7).due(1, "score", 0).does("answer", 0, 1, 7).due(51, "score", 0);
    }

    private static void keyFromZeroToNines() {
        run("4 key: 0 to 9999").with(1, 0).due(0, "addRiddle", 5, 0, 0, 1).due(1, "addRiddle", 5, 9999, 0, 1)
            .refusedFor(Run.outside(0, 9999), BAD, KEY, "addRiddle", 1, 0, 0, 1)
            .due(false, "answer", 0, 0, 9999).due(true, "answer", 0, 0, 0)
            .due(false, "answer", 0, 1, 0).due(true, "answer", 0, 1, 9999);
    }

    private static void leastTimeFromZeroToHundred() {
        run("4 least: 0 to 100").with(2, 0).due(0, "addRiddle", 5, 0, 0, 1).due(1, "addRiddle", 5, 0, 100, 1)
            .refusedFor(Run.outside(0, 100), BAD, LEAST, "addRiddle", 1, 0, 0, 1)
            .does("answer", 0, 0, 0).due(false, "isFree", 0)
            .passTo(99).does("answer", 0, 1, 0).due(true, "isFree", 1).due(false, "clear", 0, 1)
            .passTo(100).does("answer", 1, 1, 0).due(false, "isFree", 1);
    }

    private static void firstPriceFromOneToForty() {
        run("4 price: 1 to 40").with(1, 0).due(0, "addRiddle", 5, 0, 0, 1).due(1, "addRiddle", 5, 0, 0, 40)
            .refusedFor(Run.outside(1, 40), BAD, PRICE, "addRiddle", 1, 0, 0, 1)
            .due(1, "price", 0, 0).due(40, "price", 0, 1).due(1, "hint", 0, 0).due(40, "hint", 0, 1);
    }

    private static void atMostSixteenRiddles() {
        Run full = run("4 if there are 16 riddles").with(1, 15).refused(NONE_SUCH, "isFree", 15)
            .due(15, "addRiddle", 1, 15, 0, 1).refused(STATE, "addRiddle", 1, 16, 0, 1)
            .refused(STATE, "addRiddle", 50, 9999, 100, 40).refused(NONE_SUCH, "isFree", 16);
        full.due(true, "answer", 0, 15, 15).due(1, "score", 0).due(false, "isFree", 15);
    }

    private static void noRiddleAfterTheEnd() {
        run("4 or it has ended, without any").does("end").refused(STATE, "addRiddle", 1, 0, 0, 1);
        run("4 or it has ended, with one").with(1, 1).does("end").refused(STATE, "addRiddle", 1, 0, 0, 1);
        run("4 16 riddles and ended").with(1, 16).does("end").refused(STATE, "addRiddle", 1, 0, 0, 1);
    }

    private static void stateOfAddRiddleComesLast() {
        int[][] wrong = {{0, 0, 0, 1}, {51, 0, 0, 1}, {1, -1, 0, 1}, {1, 10000, 0, 1}, {1, 0, -1, 1}, {1, 0, 101, 1},
            {1, 0, 0, 0}, {1, 0, 0, 41}, {0, -1, -1, 0}, {51, 10000, 101, 41}};
        Run full = run("4 the ranges come before 16 riddles").with(0, 16);
        Run ended = run("4 the ranges come before the end").with(0, 1).does("end");
        for (int[] arguments : wrong) {
            full.refused(BAD, "addRiddle", arguments);
            ended.refused(BAD, "addRiddle", arguments);
        }
    }

    private static void needsALowerNumber() {
        run("5 other: a riddle with a lower number").with(0, 3).refused(BAD, "need", 0, 0).refused(BAD, "need", 1, 1)
            .refused(BAD, "need", 2, 2).refused(BAD, "need", 1, 2).refused(BAD, "need", 0, 1).refused(BAD, "need", 0, 2)
            .due(1, "need", 1, 0).due(1, "need", 2, 1).due(2, "need", 2, 0);
        run("5 the first and the last riddle").with(1, 16).refused(BAD, "need", 15, 15).refused(BAD, "need", 0, 15)
            .refused(BAD, "need", 14, 15).due(1, "need", 15, 14).due(2, "need", 15, 0).due(-1, "openedAt", 0, 15);
    }

    private static void needsAllLowerOnes() {
        Run run = run("5 how many riddles it needs then").with(1, 16);
        for (int other = 0; other < 15; other++) {
            run.due(other + 1, "need", 15, other);
        }
        run.refused(STATE, "need", 15, 0).refused(STATE, "need", 15, 14).refused(BAD, "need", 15, 15);
        for (int other = 0; other < 15; other++) {
            run.due(-1, "openedAt", 0, 15).refused(STATE, "answer", 0, 15, 15).does("pass", 1)
                .due(true, "answer", 0, other, other);
        }
        run.due(15, "openedAt", 0, 15).due(true, "answer", 0, 15, 15);
    }

    private static void needsItAlready() {
        run("5 if it needs it already").with(0, 3).due(1, "need", 2, 0).refused(STATE, "need", 2, 0)
            .due(2, "need", 2, 1).refused(STATE, "need", 2, 0).refused(STATE, "need", 2, 1).due(1, "need", 1, 0);
    }

    private static void needAfterAnAnswer() {
        run("5 some team has given a wrong answer to it").with(8, 3).due(1, "need", 1, 0)
            .due(false, "answer", 7, 2, 9999).refused(STATE, "need", 2, 0).refused(STATE, "need", 2, 1);
        run("5 some team has given the right answer to it").with(2, 2).due(true, "answer", 0, 1, 1)
            .refused(STATE, "need", 1, 0);
        run("5 an answer to the other one fixes nothing").with(2, 2).due(true, "answer", 0, 0, 0)
            .due(1, "need", 1, 0).due(true, "answer", 0, 1, 1).refused(STATE, "answer", 1, 1, 1);
        run("5 one answered riddle after the other").with(1, 4).does("answer", 0, 2, 9).does("answer", 0, 1, 9)
            .does("hint", 0, 3).refused(STATE, "need", 1, 0).refused(STATE, "need", 2, 0).refused(STATE, "need", 3, 0)
            .does("answer", 0, 0, 9).refused(STATE, "need", 3, 1);
        run("5 the needs of the last riddle too").with(1, 16).due(false, "answer", 0, 15, 0)
            .refused(STATE, "need", 15, 14).due(1, "need", 14, 13);
    }

    private static void needAfterAHint() {
        run("5 some team has bought a hint for it").with(8, 3).due(20, "hint", 7, 2)
            .refused(STATE, "need", 2, 0).refused(STATE, "need", 2, 1).due(1, "need", 1, 0);
        run("5 a hint for the other one fixes nothing").with(1, 2).due(20, "hint", 0, 0).due(1, "need", 1, 0);
    }

    private static void needAfterRefusedCalls() {
        run("5 a refused answer is not given, a refused hint not bought").with(1, 3).due(1, "need", 2, 0)
            .refused(STATE, "answer", 0, 2, 2).refused(STATE, "hint", 0, 2).refused(BAD, "answer", 0, 1, 10000)
            .due(20, "price", 0, 1).due(1, "need", 1, 0).due(2, "need", 2, 1);
    }

    private static void needAfterTheEnd() {
        run("5 or it has ended").with(1, 2).does("end").refused(STATE, "need", 1, 0);
    }

    private static void needThrowsTheFirstThatApplies() {
        run("5 no such riddle comes before not lower").with(0, 2).refused(NONE_SUCH, "need", 0, 2)
            .refused(NONE_SUCH, "need", 2, 2).refused(NONE_SUCH, "need", -1, -1).refused(NONE_SUCH, "need", -1, 0)
            .refused(NONE_SUCH, "need", 1, -1).refused(NONE_SUCH, "need", 2, 0).refused(NONE_SUCH, "need", 2, 5);
        run("5 not lower comes before answered").with(1, 3).due(false, "answer", 0, 1, 77)
            .refused(BAD, "need", 1, 1).refused(BAD, "need", 1, 2).refused(NONE_SUCH, "need", 1, 3)
            .refused(NONE_SUCH, "need", 1, -1).refused(STATE, "need", 1, 0);
        run("5 not lower comes before the end").with(1, 2).due(1, "need", 1, 0).does("end")
            .refused(BAD, "need", 1, 1).refused(BAD, "need", 0, 1).refused(NONE_SUCH, "need", 1, 2)
            .refused(NONE_SUCH, "need", 2, 0).refused(STATE, "need", 1, 0);
    }

    private static void atMostEightTeams() {
        run("6 if there are 8").with(7, 1).refused(NONE_SUCH, "score", 7).due(7, "addTeam").refused(STATE, "addTeam")
            .refused(STATE, "addTeam").refused(NONE_SUCH, "score", 8).due(true, "answer", 7, 0, 0).due(10, "score", 7)
            .due(7, "teamAt", 0).due(6, "teamAt", 7).due(-1, "teamAt", 8);
    }

    private static void noTeamAfterTheEnd() {
        run("6 or it has ended, without any").does("end").refused(STATE, "addTeam").due(-1, "teamAt", 0);
        run("6 or it has ended, with seven").with(7, 0).does("end").refused(STATE, "addTeam").due(-1, "teamAt", 7);
        run("6 8 and ended").with(8, 0).does("end").refused(STATE, "addTeam");
    }

    private static void endsOnce() {
        run("7 if it has ended, empty").due(0, "end").refused(STATE, "end").refused(STATE, "end");
        run("7 if it has ended, in the last minute").with(1, 1).passTo(20000).due(0, "end").refused(STATE, "end");
    }

    private static void endTellsHowManyAreFree() {
        run("7 none is free").with(8, 16).due(0, "end");
        Run all = run("7 all sixteen are free").with(1, 0);
        for (int riddle = 0; riddle < 16; riddle++) {
            all.due(riddle, "addRiddle", 1, 0, 1, 1).due(true, "answer", 0, riddle, 0);
        }
        all.due(16, "end").refused(STATE, "end").due(false, "clear", 0, 15).due(false, "isFree", 15);
        run("7 a riddle counts once, whoever solved it too soon").with(2, 0).due(0, "addRiddle", 1, 0, 1, 1)
            .due(true, "answer", 0, 0, 0).due(true, "answer", 1, 0, 0).due(1, "end");
        run("7 the cleared ones are not free").with(1, 0).due(0, "addRiddle", 1, 0, 1, 1)
            .due(true, "answer", 0, 0, 0).due(false, "clear", 0, 0).due(0, "end");
    }

    private static void nothingIsAnsweredOrSoldAfterTheEnd() {
        run("7 nothing is answered or sold any more").with(2, 2).due(20, "hint", 0, 0).due(true, "answer", 1, 1, 1)
            .due(0, "end").refused(STATE, "answer", 0, 0, 0).refused(STATE, "answer", 1, 0, 9)
            .refused(STATE, "hint", 0, 0).refused(STATE, "hint", 1, 0)
            .due(20, "price", 0, 0).due(-20, "score", 0).due(10, "score", 1);
    }
}
