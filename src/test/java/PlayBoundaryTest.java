import java.util.NoSuchElementException;

/** The sentences of the promises 8 to 12 that name a boundary: answers, hints, prices, what is open or solved. */
public final class PlayBoundaryTest {
    private static final Class<? extends RuntimeException> NONE_SUCH = IndexOutOfBoundsException.class;
    private static final Class<? extends RuntimeException> BAD = IllegalArgumentException.class;
    private static final Class<? extends RuntimeException> STATE = IllegalStateException.class;
    private static final Class<? extends RuntimeException> NO_ELEMENT = NoSuchElementException.class;
    private static final int WORD = 2;
    private static final int ALL_ANSWERS = 200;

    private static final Check check = new Check();

    public static void main(String[] args) {
        wordsFromZeroToNines();
        notOpenForTheTeam();
        solvedAlready();
        noAnswerAfterTheEnd();
        twoHundredAnswers();
        twoHundredAnswersOfAllKinds();
        refusedAnswersAreNotGiven();
        answerThrowsTheFirstThatApplies();
        threeHints();
        noHintForWhatIsNotOpen();
        noHintForWhatIsSolved();
        noHintAfterTheEnd();
        hintThrowsTheFirstThatApplies();
        aTenthRoundedDown();
        lessWhoBoughtBefore();
        oneAtLeast();
        noPriceWithoutANextHint();
        priceOfWhatIsSolvedOrEnded();
        priceThrowsTheFirstThatApplies();
        openedInTheGreatestMinute();
        openedInTheMinuteZero();
        noneWhereItIsNotOpen();
        noneWhereItIsNotSolved();
        check.finish();
    }

    private static Run run(String sentence) {
        return new Run(check, sentence);
    }

    private static void wordsFromZeroToNines() {
        run("8 word: 0 to 9999").with(1, 1).does("addRiddle", 10, 9999, 0, 20).does("addRiddle", 10, 5000, 0, 20)
            .refusedFor(Run.outside(0, 9999), BAD, WORD, "answer", 0, 0, 0)
            .due(false, "answer", 0, 2, 0).due(false, "answer", 0, 2, 9999).due(false, "answer", 0, 2, 4999)
            .due(false, "answer", 0, 2, 5001).due(false, "answer", 0, 0, 9999).due(false, "answer", 0, 1, 0)
            .due(true, "answer", 0, 0, 0).due(true, "answer", 0, 1, 9999).due(true, "answer", 0, 2, 5000);
    }

    private static void notOpenForTheTeam() {
        run("8 if the riddle is not open for the team").with(2, 3).does("need", 2, 0).does("need", 2, 1)
            .refused(STATE, "answer", 0, 2, 2).refused(STATE, "answer", 0, 2, 9)
            .due(true, "answer", 0, 0, 0).refused(STATE, "answer", 0, 2, 2)
            .due(true, "answer", 1, 1, 1).refused(STATE, "answer", 0, 2, 2)
            .due(false, "answer", 0, 1, 9).refused(STATE, "answer", 0, 2, 2)
            .due(true, "answer", 0, 1, 1).due(true, "answer", 0, 2, 2).refused(STATE, "answer", 1, 2, 2);
    }

    private static void solvedAlready() {
        run("8 it has solved it").with(2, 1).due(false, "answer", 0, 0, 9).due(false, "answer", 0, 0, 9)
            .due(true, "answer", 0, 0, 0).refused(STATE, "answer", 0, 0, 0).refused(STATE, "answer", 0, 0, 9)
            .does("pass", 1).refused(STATE, "answer", 0, 0, 0).due(0, "solvedAt", 0, 0)
            .due(true, "answer", 1, 0, 0);
    }

    private static void noAnswerAfterTheEnd() {
        run("8 it has ended").with(1, 1).due(0, "end").refused(STATE, "answer", 0, 0, 0).refused(STATE, "answer", 0, 0, 9);
    }

    private static void twoHundredAnswers() {
        run("8 or 200 answers were given").with(2, 2).guess(ALL_ANSWERS - 1).due(true, "answer", 1, 0, 0)
            .refused(STATE, "answer", 0, 0, 0).refused(STATE, "answer", 0, 0, 9).refused(STATE, "answer", 0, 1, 1)
            .refused(STATE, "answer", 1, 1, 1).due(10, "score", 1).due(10, "scoreAnew", 1).due(0, "score", 0)
            .due(0, "scoreAnew", 0).due(20, "hint", 0, 0).due(-20, "scoreAnew", 0).due(0, "end");
        run("8 the last of 200 may be wrong").with(2, 2).guess(ALL_ANSWERS - 1).due(0, "likeness", 0, 1)
            .due(false, "answer", 1, 0, 3198).refused(STATE, "answer", 1, 0, 3197).due(1, "likeness", 0, 1);
    }

    private static void twoHundredAnswersOfAllKinds() {
        Run full = run("8 of all teams, to all riddles, repeated, wrong or right").with(8, 16);
        for (int given = 0; given < 128; given++) {
            full.due(false, "answer", given % 8, given / 8, 9999);
        }
        for (int given = 0; given < 72; given++) {
            full.due(true, "answer", given % 8, given / 8, given / 8);
        }
        for (int team = 0; team < 8; team++) {
            full.refused(STATE, "answer", team, 15, 15);
            full.due(16, "likeness", team, 7 - team).due(0, "score", team).due(0, "scoreAnew", team);
        }
        full.does("setBound", 17).due(90, "score", 7).due(90, "scoreAnew", 0);
    }

    private static void refusedAnswersAreNotGiven() {
        run("8 a refused answer is none of the 200").with(1, 2).does("need", 1, 0).guess(ALL_ANSWERS - 1)
            .refused(BAD, "answer", 0, 0, 10000).refused(BAD, "answer", 0, 0, -1).refused(NONE_SUCH, "answer", 1, 0, 0)
            .refused(NONE_SUCH, "answer", 0, 2, 0).refused(STATE, "answer", 0, 1, 1).due(true, "answer", 0, 0, 0)
            .refused(STATE, "answer", 0, 1, 1);
    }

    private static void answerThrowsTheFirstThatApplies() {
        Run run = run("8 no such one comes before the range").with(1, 2).does("need", 1, 0);
        answerIsWrongFirst(run);
        run.refused(BAD, "answer", 0, 1, -1).refused(BAD, "answer", 0, 1, 10000).refused(STATE, "answer", 0, 1, 1);
        Run solved = run("8 all comes before solved").with(1, 1).does("answer", 0, 0, 0);
        solved.refused(BAD, "answer", 0, 0, -1).refused(BAD, "answer", 0, 0, 10000).refused(STATE, "answer", 0, 0, 0);
        Run ended = run("8 all comes before the end").with(1, 2).does("end");
        answerIsWrongFirst(ended);
        ended.refused(BAD, "answer", 0, 0, -1).refused(BAD, "answer", 0, 0, 10000).refused(STATE, "answer", 0, 0, 0);
        Run full = run("8 all comes before 200 answers").with(1, 2).guess(ALL_ANSWERS);
        answerIsWrongFirst(full);
        full.refused(BAD, "answer", 0, 0, -1).refused(BAD, "answer", 0, 0, 10000).refused(STATE, "answer", 0, 0, 0);
    }

    private static void answerIsWrongFirst(Run oneTeamAndTwoRiddles) {
        oneTeamAndTwoRiddles.refused(NONE_SUCH, "answer", 1, 0, 0).refused(NONE_SUCH, "answer", 1, 0, -1)
            .refused(NONE_SUCH, "answer", -1, 0, 10000).refused(NONE_SUCH, "answer", 0, 2, 0)
            .refused(NONE_SUCH, "answer", 0, 2, 10000).refused(NONE_SUCH, "answer", 0, -1, -1)
            .refused(NONE_SUCH, "answer", 1, 2, -1).refused(NONE_SUCH, "answer", -1, -1, 0);
    }

    private static void threeHints() {
        run("9 or has three hints for it").with(2, 2).due(20, "hint", 0, 0).due(20, "hint", 0, 0).due(20, "hint", 0, 0)
            .refused(STATE, "hint", 0, 0).refused(STATE, "hint", 0, 0).due(-60, "score", 0)
            .due(20, "hint", 0, 1).due(19, "hint", 1, 0).due(19, "hint", 1, 0).due(19, "hint", 1, 0)
            .refused(STATE, "hint", 1, 0).due(-57, "score", 1).due(-80, "scoreAnew", 0);
        Run all = run("9 three for each team of the last riddle").with(8, 16);
        for (int team = 0; team < 8; team++) {
            all.due(20 - team, "hint", team, 15).due(20 - team, "hint", team, 15).due(20 - team, "hint", team, 15)
                .refused(STATE, "hint", team, 15).due(3 * team - 60, "score", team);
        }
    }

    private static void noHintForWhatIsNotOpen() {
        run("9 if the riddle is not open for the team").with(2, 3).does("need", 2, 0).does("need", 2, 1)
            .refused(STATE, "hint", 0, 2).does("answer", 0, 0, 0).refused(STATE, "hint", 0, 2)
            .does("answer", 0, 1, 1).due(20, "hint", 0, 2).refused(STATE, "hint", 1, 2);
    }

    private static void noHintForWhatIsSolved() {
        run("9 it has solved it").with(2, 1).due(20, "hint", 0, 0).does("answer", 0, 0, 0).refused(STATE, "hint", 0, 0)
            .due(19, "hint", 1, 0).due(-10, "score", 0);
    }

    private static void noHintAfterTheEnd() {
        run("9 or it has ended").with(1, 1).does("end").refused(STATE, "hint", 0, 0).due(0, "score", 0);
    }

    private static void hintThrowsTheFirstThatApplies() {
        run("9 no such one comes before the end").with(1, 1).does("end").refused(NONE_SUCH, "hint", 1, 0)
            .refused(NONE_SUCH, "hint", 0, 1).refused(NONE_SUCH, "hint", -1, -1).refused(STATE, "hint", 0, 0);
        run("9 no such one comes before three hints").with(1, 1).does("hint", 0, 0).does("hint", 0, 0)
            .does("hint", 0, 0).refused(NONE_SUCH, "hint", 1, 0).refused(NONE_SUCH, "hint", 0, 1)
            .refused(NONE_SUCH, "hint", 0, -1).refused(STATE, "hint", 0, 0);
    }

    private static void aTenthRoundedDown() {
        run("10 less a tenth of the minutes, rounded down").with(1, 2).does("need", 1, 0)
            .passTo(9).due(20, "price", 0, 0).passTo(10).due(19, "price", 0, 0).passTo(15).due(19, "price", 0, 0)
            .passTo(19).due(19, "price", 0, 0).passTo(20).due(18, "price", 0, 0).due(18, "hint", 0, 0)
            .passTo(25).does("answer", 0, 0, 0).due(20, "price", 0, 1)
            .passTo(34).due(20, "price", 0, 1).passTo(35).due(19, "price", 0, 1)
            .passTo(44).due(19, "price", 0, 1).passTo(45).due(18, "hint", 0, 1);
    }

    private static void lessWhoBoughtBefore() {
        Run run = run("9 less how many teams have bought the hint of this number before").with(8, 1);
        for (int team = 0; team < 8; team++) {
            run.due(20 - team, "price", team, 0).due(20 - team, "hint", team, 0).due(20, "price", team, 0);
        }
        run.due(20, "hint", 7, 0).due(19, "price", 0, 0).due(20, "price", 7, 0).due(20, "hint", 7, 0)
            .due(19, "hint", 0, 0).due(19, "hint", 0, 0).due(18, "price", 1, 0);
    }

    private static void oneAtLeast() {
        run("9 but 1 at least, by the minutes").with(1, 0).does("addRiddle", 10, 0, 0, 2).passTo(9).due(2, "price", 0, 0)
            .passTo(10).due(1, "price", 0, 0).passTo(20).due(1, "price", 0, 0).passTo(30).due(1, "hint", 0, 0)
            .passTo(20000).due(1, "price", 0, 0).due(1, "hint", 0, 0).due(-2, "score", 0);
        run("9 but 1 at least, of the greatest first price").with(1, 0).does("addRiddle", 10, 0, 0, 40)
            .passTo(379).due(3, "price", 0, 0).passTo(389).due(2, "price", 0, 0).passTo(390).due(1, "price", 0, 0)
            .passTo(400).due(1, "price", 0, 0).passTo(410).due(1, "hint", 0, 0);
        run("9 but 1 at least, by the teams").with(4, 0).does("addRiddle", 10, 0, 0, 2).due(2, "hint", 0, 0)
            .due(1, "hint", 1, 0).due(1, "hint", 2, 0).due(1, "price", 3, 0).due(1, "hint", 3, 0).due(-1, "score", 3);
        run("9 but 1 at least, by both").with(3, 0).does("addRiddle", 10, 0, 0, 3).does("pass", 10)
            .due(2, "hint", 0, 0).due(1, "hint", 1, 0).due(1, "hint", 2, 0);
        run("9 the least first price").with(2, 0).does("addRiddle", 10, 0, 0, 1).due(1, "hint", 0, 0)
            .due(1, "hint", 1, 0).does("pass", 500).due(1, "hint", 1, 0);
    }

    private static void noPriceWithoutANextHint() {
        run("10 or it has three hints for it").with(2, 1).does("hint", 0, 0).does("hint", 0, 0).due(20, "price", 0, 0)
            .does("hint", 0, 0).refused(NO_ELEMENT, "price", 0, 0).due(19, "price", 1, 0);
        run("10 if the riddle is not open for the team").with(2, 3).does("need", 2, 0).does("need", 2, 1)
            .refused(NO_ELEMENT, "price", 0, 2).does("answer", 0, 1, 1).refused(NO_ELEMENT, "price", 0, 2)
            .does("answer", 0, 0, 0).due(20, "price", 0, 2).refused(NO_ELEMENT, "price", 1, 2);
    }

    private static void priceOfWhatIsSolvedOrEnded() {
        run("10 a price also when it is solved or has ended").with(1, 1).does("answer", 0, 0, 0).due(20, "price", 0, 0)
            .does("end").due(20, "price", 0, 0).does("pass", 10).due(19, "price", 0, 0);
        run("10 no price after the end either").with(1, 2).does("need", 1, 0).does("hint", 0, 0).does("hint", 0, 0)
            .does("hint", 0, 0).does("end").refused(NO_ELEMENT, "price", 0, 0).refused(NO_ELEMENT, "price", 0, 1);
    }

    private static void priceThrowsTheFirstThatApplies() {
        run("10 no such one comes first").with(1, 2).does("need", 1, 0).does("hint", 0, 0).does("hint", 0, 0)
            .does("hint", 0, 0).refused(NONE_SUCH, "price", 1, 0).refused(NONE_SUCH, "price", 1, 1)
            .refused(NONE_SUCH, "price", 0, 2).refused(NONE_SUCH, "price", -1, 1).refused(NONE_SUCH, "price", 0, -1)
            .refused(NO_ELEMENT, "price", 0, 0).refused(NO_ELEMENT, "price", 0, 1);
    }

    private static void openedInTheGreatestMinute() {
        run("11 the greatest minute, solved last").with(1, 4).does("need", 3, 0).does("need", 3, 1).does("need", 3, 2)
            .does("answer", 0, 2, 2).passTo(3).does("answer", 0, 1, 1).passTo(20000).does("answer", 0, 0, 0)
            .due(20000, "openedAt", 0, 3);
        run("11 all in the minute 0").with(1, 3).does("need", 2, 0).does("need", 2, 1).does("answer", 0, 0, 0)
            .does("answer", 0, 1, 1).does("pass", 5).due(0, "openedAt", 0, 2);
    }

    private static void openedInTheMinuteZero() {
        run("11 in the minute 0, also if the riddle or the team came later").with(1, 0).passTo(20000)
            .does("addRiddle", 1, 0, 0, 1).does("addTeam").due(0, "openedAt", 0, 0).due(0, "openedAt", 1, 0);
    }

    private static void noneWhereItIsNotOpen() {
        run("11 NONE if it is not open").with(2, 2).does("need", 1, 0).due(-1, "openedAt", 0, 1)
            .due(false, "answer", 0, 0, 9).due(-1, "openedAt", 0, 1).due(true, "answer", 0, 0, 0)
            .due(0, "openedAt", 0, 1).due(-1, "openedAt", 1, 1);
        run("11 a riddle closes again by a new need").with(1, 2).due(0, "openedAt", 0, 1).does("need", 1, 0)
            .due(-1, "openedAt", 0, 1);
    }

    private static void noneWhereItIsNotSolved() {
        run("12 NONE if it has not").with(2, 1).due(-1, "solvedAt", 0, 0).due(false, "answer", 0, 0, 9)
            .due(-1, "solvedAt", 0, 0).due(true, "answer", 0, 0, 0).due(0, "solvedAt", 0, 0).due(-1, "solvedAt", 1, 0)
            .does("pass", 1).due(0, "solvedAt", 0, 0).due(true, "answer", 1, 0, 0).due(1, "solvedAt", 1, 0);
        run("12 in the last minute").with(8, 16).passTo(20000).does("answer", 7, 15, 15).due(20000, "solvedAt", 7, 15);
    }
}
