/** The sentences of the promises 22 to 27 that name a boundary: scores, places, the order of teams, prizes. */
public final class PrizeBoundaryTest {
    private static final Class<? extends RuntimeException> NONE_SUCH = IndexOutOfBoundsException.class;
    private static final Class<? extends RuntimeException> BAD = IllegalArgumentException.class;
    private static final Class<? extends RuntimeException> STATE = IllegalStateException.class;
    private static final int PLACE = 0;
    private static final int COINS = 1;

    private static final Check check = new Check();

    public static void main(String[] args) {
        theLeastAndTheGreatestScore();
        scoreOfFreeRiddlesAlone();
        scoreAnewOfRepeatedAnswers();
        allOfOnePlace();
        eightPlaces();
        placeAfterSharedOnes();
        lesserLastMinuteFirst();
        lastMinuteZeroWithoutAny();
        orderOfEqualTeams();
        noTeamThere();
        placesFromOneToEight();
        coinsFromZeroToThousand();
        refusedPrizesChangeNothing();
        prizesOnlyAfterTheEnd();
        allShareAllPrizes();
        sharesAreRoundedDown();
        lastPlacesShare();
        lessTeamsThanPrizes();
        prizesFollowTheJudge();
        check.finish();
    }

    private static Run run(String sentence) {
        return new Run(check, sentence);
    }

    /** Eight teams, of which each has solved one riddle of 10 points more than the next; the last has solved none. */
    private static Run ladder(String sentence) {
        Run run = run(sentence).with(8, 8);
        for (int team = 0; team < 8; team++) {
            for (int riddle = 0; riddle < 7 - team; riddle++) {
                run.does("answer", team, riddle, riddle);
            }
        }
        return run;
    }

    private static void theLeastAndTheGreatestScore() {
        Run greatest = run("22 sixteen riddles of 50 points").with(1, 0).due(0, "score", 0).due(0, "scoreAnew", 0);
        Run least = run("22 three hints for sixteen riddles at 40").with(1, 0);
        for (int riddle = 0; riddle < 16; riddle++) {
            greatest.does("addRiddle", 50, 9999, 0, 1).does("answer", 0, riddle, 9999);
            least.does("addRiddle", 1, 0, 0, 40).due(40, "hint", 0, riddle).due(40, "hint", 0, riddle)
                .due(40, "hint", 0, riddle);
        }
        greatest.due(800, "score", 0).due(800, "scoreAnew", 0);
        least.due(-1920, "score", 0).due(-1920, "scoreAnew", 0);
    }

    private static void scoreOfFreeRiddlesAlone() {
        run("22 less what it paid for hints of riddles that are not free").with(2, 0).does("addRiddle", 50, 0, 1, 40)
            .does("hint", 0, 0).does("hint", 0, 0).does("hint", 0, 0).due(-120, "score", 0)
            .does("answer", 1, 0, 0).due(0, "score", 0).due(0, "scoreAnew", 0).due(0, "score", 1)
            .due(false, "clear", 1, 0).due(-120, "score", 0).due(-120, "scoreAnew", 0).due(50, "score", 1);
    }

    private static void scoreAnewOfRepeatedAnswers() {
        Run run = run("23 each answer in common once, of 200").with(2, 2).does("setBound", 2);
        for (int given = 0; given < 99; given++) {
            run.does("answer", 0, 0, 9).does("answer", 1, 0, 9);
        }
        run.does("answer", 0, 0, 0).does("answer", 1, 0, 0).refused(STATE, "answer", 0, 1, 1)
            .due(10, "score", 0).due(10, "scoreAnew", 0).does("setBound", 1).due(0, "score", 0).due(0, "scoreAnew", 0)
            .due(0, "scoreAnew", 1);
    }

    private static void allOfOnePlace() {
        Run run = run("24 all of one place").with(8, 0);
        for (int team = 0; team < 8; team++) {
            run.due(1, "place", team).due(team, "teamAt", team);
        }
        run("24 one team alone").with(1, 0).due(1, "place", 0).due(0, "teamAt", 0).due(-1, "teamAt", 1);
    }

    private static void eightPlaces() {
        Run run = ladder("24 eight places");
        for (int team = 0; team < 8; team++) {
            run.due(team + 1, "place", team).due(team, "teamAt", team);
        }
        run.due(-1, "teamAt", 8);
    }

    private static void placeAfterSharedOnes() {
        run("24 1 more than the number of better teams").with(4, 2).does("answer", 1, 0, 0).does("answer", 2, 0, 0)
            .due(1, "place", 1).due(1, "place", 2).due(3, "place", 0).due(3, "place", 3)
            .due(1, "teamAt", 0).due(2, "teamAt", 1).due(0, "teamAt", 2).due(3, "teamAt", 3);
    }

    private static void lesserLastMinuteFirst() {
        run("24 the same score and a lesser last minute").with(3, 2).does("pass", 1).does("answer", 2, 0, 0)
            .does("pass", 1).does("answer", 1, 0, 0).does("answer", 0, 1, 1)
            .due(1, "place", 2).due(2, "place", 1).due(2, "place", 0)
            .due(2, "teamAt", 0).due(0, "teamAt", 1).due(1, "teamAt", 2);
        run("24 the greatest minute of those that count").with(2, 3).does("answer", 0, 0, 0).passTo(20000)
            .does("answer", 0, 1, 1).does("answer", 1, 2, 2).does("answer", 1, 0, 0)
            .due(1, "place", 0).due(1, "place", 1);
        run("24 the greater score first, in whatever minute").with(2, 2).does("answer", 0, 0, 0).passTo(20000)
            .does("answer", 1, 0, 0).does("answer", 1, 1, 1).due(1, "place", 1).due(2, "place", 0);
    }

    private static void lastMinuteZeroWithoutAny() {
        run("24 last minute 0 without any").with(3, 0).does("addRiddle", 10, 0, 0, 10).does("hint", 0, 0)
            .due(3, "place", 0).does("pass", 1).does("answer", 0, 0, 0).due(0, "score", 0).due(3, "place", 0)
            .due(1, "place", 1).due(1, "place", 2).due(1, "teamAt", 0).due(2, "teamAt", 1).due(0, "teamAt", 2);
        run("24 in the minute 0 as without any").with(2, 0).does("addRiddle", 10, 0, 0, 10).does("hint", 1, 0)
            .does("answer", 1, 0, 0).due(0, "score", 1).due(1, "place", 0).due(1, "place", 1);
        run("24 a void one makes no last minute").with(3, 1).does("pass", 5).share(0, 1, 0, 3).does("answer", 0, 0, 0)
            .due(1, "place", 0).due(1, "place", 2).does("pardon", 0, 1).due(2, "place", 2)
            .does("answer", 2, 0, 0).due(1, "place", 0).due(1, "place", 2);
    }

    private static void orderOfEqualTeams() {
        run("25 of the same the lower number").with(8, 1).does("answer", 7, 0, 0).due(7, "teamAt", 0).due(0, "teamAt", 1)
            .due(6, "teamAt", 7).does("answer", 3, 0, 0).due(3, "teamAt", 0).due(7, "teamAt", 1).due(0, "teamAt", 2)
            .due(2, "teamAt", 4).due(4, "teamAt", 5);
    }

    private static void noTeamThere() {
        for (int teams : new int[] {0, 1, 5, 8}) {
            Run run = run("25 NONE if there is none, of " + teams).with(teams, 1);
            for (int at : Run.outside(0, teams - 1)) {
                run.due(-1, "teamAt", at);
            }
            run.does("end").due(-1, "teamAt", teams).due(-1, "teamAt", -1);
        }
    }

    private static void placesFromOneToEight() {
        run("26 place: 1 to 8").due(0, "setPrize", 1, 11).due(0, "setPrize", 8, 88)
            .refusedFor(Run.outside(1, 8), BAD, PLACE, "setPrize", 1, 5).due(11, "setPrize", 1, 1)
            .due(88, "setPrize", 8, 8).due(0, "setPrize", 2, 2).due(0, "setPrize", 7, 7).due(8, "setPrize", 8, 0);
    }

    private static void coinsFromZeroToThousand() {
        run("26 coins: 0 to 1000").due(0, "setPrize", 4, 1000).due(1000, "setPrize", 4, 0).due(0, "setPrize", 4, 999)
            .refusedFor(Run.outside(0, 1000), BAD, COINS, "setPrize", 4, 5).due(999, "setPrize", 4, 4);
    }

    private static void refusedPrizesChangeNothing() {
        run("26 both out of range").with(1, 0).due(0, "setPrize", 1, 7).refused(BAD, "setPrize", 0, -1)
            .refused(BAD, "setPrize", 9, 1001).refused(BAD, "setPrize", 1, 1001).refused(BAD, "setPrize", 9, 0)
            .does("end").due(7, "prize", 0).refused(BAD, "setPrize", 1, -1).refused(BAD, "setPrize", 0, 7)
            .due(7, "prize", 0).due(7, "setPrize", 1, 8).due(8, "prize", 0);
    }

    private static void prizesOnlyAfterTheEnd() {
        run("27 if it has not ended").with(1, 1).does("setPrize", 1, 9).refused(STATE, "prize", 0).passTo(20000)
            .refused(STATE, "prize", 0).does("end").due(9, "prize", 0);
        run("27 no such team comes before the end").with(1, 0).refused(NONE_SUCH, "prize", 1)
            .refused(NONE_SUCH, "prize", -1).refused(NONE_SUCH, "prize", 8).refused(STATE, "prize", 0);
        run("27 no such team when it has ended").with(1, 0).does("end").refused(NONE_SUCH, "prize", 1)
            .refused(NONE_SUCH, "prize", -1).refused(NONE_SUCH, "prize", 8).due(0, "prize", 0);
        run("27 no team at all").does("end").refused(NONE_SUCH, "prize", 0);
    }

    private static void allShareAllPrizes() {
        Run run = run("27 eight of one place share eight prizes").with(8, 0);
        for (int place = 1; place <= 8; place++) {
            run.does("setPrize", place, 1000);
        }
        run.does("end").due(1000, "prize", 0).due(1000, "prize", 7).does("setPrize", 8, 999).due(999, "prize", 0)
            .due(999, "prize", 7).does("setPrize", 8, 1000).does("setPrize", 1, 993).due(999, "prize", 7)
            .does("setPrize", 1, 992).due(999, "prize", 0).does("setPrize", 1, 991).due(998, "prize", 7);
    }

    private static void sharesAreRoundedDown() {
        run("27 each the same, rounded down").with(3, 0).does("setPrize", 1, 1).does("setPrize", 2, 1).does("end")
            .due(0, "prize", 0).due(0, "prize", 2).does("setPrize", 3, 1).due(1, "prize", 1)
            .does("setPrize", 1, 1000).due(334, "prize", 0).does("setPrize", 2, 0).does("setPrize", 3, 0)
            .due(333, "prize", 0).due(333, "prize", 1).due(333, "prize", 2);
    }

    private static void lastPlacesShare() {
        Run run = ladder("27 the last places");
        for (int place = 1; place <= 8; place++) {
            run.does("setPrize", place, 10 * place);
        }
        run.does("end");
        for (int team = 0; team < 8; team++) {
            run.due(10 * team + 10, "prize", team);
        }
        run.does("setPrize", 8, 1000).due(1000, "prize", 7).due(70, "prize", 6).does("setPrize", 1, 0).due(0, "prize", 0);
        Run two = run("27 two of the place 7 share the prizes 7 and 8").with(8, 1);
        for (int team = 0; team < 6; team++) {
            two.does("answer", team, 0, 0);
        }
        two.does("setPrize", 6, 60).does("setPrize", 7, 50).does("setPrize", 8, 25).does("end").due(37, "prize", 6)
            .due(37, "prize", 7).due(10, "prize", 0).due(10, "prize", 5);
    }

    private static void lessTeamsThanPrizes() {
        run("27 the prizes behind the last team are nobody's").with(2, 1).does("setPrize", 1, 10).does("setPrize", 2, 4)
            .does("setPrize", 3, 1000).does("end").due(7, "prize", 0).due(7, "prize", 1);
        run("27 one team alone").with(1, 0).does("setPrize", 1, 10).does("setPrize", 2, 1000).does("end")
            .due(10, "prize", 0);
    }

    private static void prizesFollowTheJudge() {
        run("27 also when the judge speaks after the end").with(3, 1).does("setPrize", 1, 30).does("setPrize", 2, 12)
            .does("setPrize", 3, 6).share(0, 1, 0, 3).does("answer", 0, 0, 0).does("end")
            .due(16, "prize", 0).due(16, "prize", 2).does("pardon", 1, 0).due(30, "prize", 0).due(9, "prize", 1)
            .does("pardon", 0, 1).due(16, "prize", 0).does("setBound", 4).due(30, "prize", 0).due(9, "prize", 2);
    }
}
