/** The sentences of the promises 13 to 21 that name a boundary: clearing, pardons, the bound, what is free or void. */
public final class JudgeBoundaryTest {
    private static final Class<? extends RuntimeException> NONE_SUCH = IndexOutOfBoundsException.class;
    private static final Class<? extends RuntimeException> BAD = IllegalArgumentException.class;
    private static final Class<? extends RuntimeException> STATE = IllegalStateException.class;
    private static final int MOST_BOUND = 20;

    private static final Check check = new Check();

    public static void main(String[] args) {
        clearsOnlyTooSoon();
        clearsOnce();
        clearsOneRiddleAfterTheOther();
        freeAllTheSame();
        clearThrowsTheFirstThatApplies();
        pardonsAndTakesBack();
        pardonsNotTheSame();
        boundFromOneToTwenty();
        tooSoonByOneMinute();
        tooSoonSinceItOpened();
        likenessOfATeamAndItself();
        likenessEachOnce();
        likenessOfAllAnswers();
        notTheKeyInCommon();
        linkedFromTheBoundOn();
        linkedNotWithItself();
        cheatedFromTheBoundOn();
        cheatedForAllTeams();
        cheatedWithAnyOfThem();
        voidOnlyIfSolved();
        voidOverAllSixteen();
        hangingOverAllSixteen();
        check.finish();
    }

    private static Run run(String sentence) {
        return new Run(check, sentence);
    }

    /** A riddle of 7 points with the key 0, the least time 10 and the first price 20. */
    private static Run quick(String sentence, int teams) {
        return run(sentence).with(teams, 0).does("addRiddle", 7, 0, 10, 20);
    }

    private static void clearsOnlyTooSoon() {
        quick("13 if it did not solve it at all", 2).refused(STATE, "clear", 0, 0).due(false, "answer", 0, 0, 9)
            .refused(STATE, "clear", 0, 0).due(true, "answer", 1, 0, 0).refused(STATE, "clear", 0, 0)
            .due(false, "clear", 1, 0);
        quick("13 one minute too soon", 1).passTo(9).does("answer", 0, 0, 0).due(false, "clear", 0, 0);
        quick("13 just in time", 1).passTo(10).does("answer", 0, 0, 0).refused(STATE, "clear", 0, 0);
        quick("13 one minute later", 1).passTo(11).does("answer", 0, 0, 0).refused(STATE, "clear", 0, 0);
        run("13 without a least time").with(1, 1).does("answer", 0, 0, 0).refused(STATE, "clear", 0, 0);
        run("13 the last team and the last riddle").with(8, 15).does("addRiddle", 50, 1, 100, 1)
            .does("answer", 7, 15, 1).due(true, "isFree", 15).refused(STATE, "clear", 6, 15)
            .refused(STATE, "clear", 7, 14).due(false, "clear", 7, 15).due(50, "score", 7);
    }

    private static void clearsOnce() {
        quick("13 or was cleared of that", 1).does("answer", 0, 0, 0).due(0, "score", 0).due(false, "clear", 0, 0)
            .refused(STATE, "clear", 0, 0).due(7, "score", 0).does("end").refused(STATE, "clear", 0, 0);
    }

    private static void clearsOneRiddleAfterTheOther() {
        quick("13 a second riddle clears nothing of the first", 1).does("addRiddle", 7, 0, 10, 20)
            .does("answer", 0, 0, 0).does("answer", 0, 1, 0).due(false, "clear", 0, 0).due(false, "clear", 0, 1)
            .refused(STATE, "clear", 0, 0).refused(STATE, "clear", 0, 1).due(false, "isFree", 0).due(14, "score", 0);
    }

    private static void freeAllTheSame() {
        Run run = quick("13 true as long as another one is left", 8);
        for (int team = 0; team < 8; team++) {
            run.does("answer", team, 0, 0);
        }
        for (int team = 7; team > 0; team--) {
            run.due(true, "clear", team, 0).refused(STATE, "clear", team, 0).due(true, "isFree", 0).due(0, "score", team);
        }
        run.due(false, "clear", 0, 0).due(false, "isFree", 0).due(7, "score", 0).due(7, "score", 7);
    }

    private static void clearThrowsTheFirstThatApplies() {
        quick("13 no such one comes first", 1).does("answer", 0, 0, 0).does("clear", 0, 0)
            .refused(NONE_SUCH, "clear", 1, 0).refused(NONE_SUCH, "clear", 0, 1).refused(NONE_SUCH, "clear", -1, 0)
            .refused(NONE_SUCH, "clear", 0, -1).refused(NONE_SUCH, "clear", 1, 1).refused(STATE, "clear", 0, 0);
    }

    private static void pardonsAndTakesBack() {
        run("14 pardons, or takes that back").with(8, 0).due(true, "pardon", 0, 7).due(false, "pardon", 7, 0)
            .due(true, "pardon", 7, 0).due(false, "pardon", 7, 0).due(true, "pardon", 6, 7).due(true, "pardon", 0, 7)
            .due(false, "pardon", 7, 6).due(false, "pardon", 0, 7);
        Run all = run("14 each two of eight").with(8, 0);
        for (int team = 0; team < 8; team++) {
            for (int other = 0; other < team; other++) {
                all.due(true, "pardon", team, other);
            }
        }
        for (int team = 0; team < 8; team++) {
            for (int other = 0; other < team; other++) {
                all.due(false, "pardon", other, team);
            }
        }
        run("14 goes on after the end").with(2, 1).share(0, 1, 0, 3).does("answer", 0, 0, 0).does("end")
            .due(0, "score", 0).due(true, "pardon", 0, 1).due(10, "score", 0).due(false, "pardon", 0, 1).due(0, "score", 0);
    }

    private static void pardonsNotTheSame() {
        run("14 if both are the same").with(8, 0).refused(BAD, "pardon", 0, 0).refused(BAD, "pardon", 7, 7)
            .due(true, "pardon", 0, 7).refused(BAD, "pardon", 0, 0).due(false, "pardon", 0, 7);
        run("14 no such team comes before the same").with(2, 0).refused(NONE_SUCH, "pardon", 2, 2)
            .refused(NONE_SUCH, "pardon", -1, -1).refused(NONE_SUCH, "pardon", 8, 8).refused(BAD, "pardon", 1, 1);
    }

    private static void boundFromOneToTwenty() {
        run("15 bound: 1 to 20").refusedFor(Run.outside(1, MOST_BOUND), BAD, 0, "setBound", 1)
            .due(3, "setBound", 1).due(1, "setBound", 20).due(20, "setBound", 20)
            .refusedFor(Run.outside(1, MOST_BOUND), BAD, 0, "setBound", 1).due(20, "setBound", 1).due(1, "setBound", 3);
        run("15 goes on after the end").with(2, 1).share(0, 1, 0, 1).does("answer", 0, 0, 0).does("end")
            .due(10, "score", 0).due(3, "setBound", 1).due(0, "score", 0).refused(BAD, "setBound", 0)
            .due(1, "setBound", 2).due(10, "score", 0);
    }

    private static void tooSoonByOneMinute() {
        run("16 never without a least time").with(1, 1).does("answer", 0, 0, 0).due(false, "isFree", 0).due(10, "score", 0);
        run("16 a least time of 1 in the same minute").with(1, 0).does("addRiddle", 5, 0, 1, 1).does("answer", 0, 0, 0)
            .due(true, "isFree", 0).due(0, "score", 0);
        run("16 a least time of 1 a minute later").with(1, 0).does("addRiddle", 5, 0, 1, 1).does("pass", 1)
            .does("answer", 0, 0, 0).due(false, "isFree", 0).due(5, "score", 0);
        quick("16 one minute too soon", 2).passTo(9).does("answer", 0, 0, 0).due(true, "isFree", 0).passTo(10)
            .does("answer", 1, 0, 0).due(true, "isFree", 0).due(false, "clear", 0, 0).due(false, "isFree", 0);
        quick("16 just in time", 1).passTo(10).does("answer", 0, 0, 0).due(false, "isFree", 0).due(7, "score", 0);
        quick("16 a wrong answer too soon", 1).due(false, "answer", 0, 0, 9).due(false, "isFree", 0).passTo(10)
            .does("answer", 0, 0, 0).due(false, "isFree", 0);
    }

    private static void tooSoonSinceItOpened() {
        run("16 since the riddle opened for the team").with(2, 1).does("addRiddle", 7, 1, 100, 20).does("need", 1, 0)
            .passTo(500).does("answer", 0, 0, 0).passTo(550).does("answer", 1, 0, 0)
            .passTo(600).does("answer", 0, 1, 1).due(false, "isFree", 1)
            .passTo(649).does("answer", 1, 1, 1).due(true, "isFree", 1).refused(STATE, "clear", 0, 1)
            .due(10, "score", 0).due(false, "clear", 1, 1).due(17, "score", 0).due(17, "scoreAnew", 1);
        run("16 a riddle that came later is open since the minute 0").with(1, 0).passTo(100)
            .does("addRiddle", 7, 0, 100, 20).does("answer", 0, 0, 0).due(false, "isFree", 0);
        run("16 a team that came later too").with(1, 0).does("addRiddle", 7, 0, 100, 20).passTo(99)
            .does("addTeam").does("answer", 1, 0, 0).due(true, "isFree", 0);
    }

    private static void likenessOfATeamAndItself() {
        run("17 0 for a team and itself").with(2, 1).due(0, "likeness", 0, 0).share(0, 1, 0, 4)
            .due(0, "likeness", 0, 0).due(0, "likeness", 1, 1).due(4, "likeness", 0, 1).due(4, "likeness", 1, 0);
    }

    private static void likenessEachOnce() {
        run("17 each once, however often they were given").with(2, 1).does("answer", 0, 0, 9).does("answer", 0, 0, 9)
            .due(0, "likeness", 0, 1).does("answer", 1, 0, 9).due(1, "likeness", 0, 1).does("answer", 1, 0, 9)
            .due(1, "likeness", 0, 1).does("answer", 0, 0, 9).due(1, "likeness", 1, 0);
        run("17 the same answer to another riddle is another one").with(2, 16).does("answer", 0, 0, 9999)
            .does("answer", 1, 15, 9999).due(0, "likeness", 0, 1).does("answer", 0, 15, 9999).due(1, "likeness", 0, 1)
            .does("answer", 1, 0, 9999).due(2, "likeness", 0, 1);
        run("17 none in common with a team that has given none").with(2, 0).does("addRiddle", 10, 9999, 0, 20)
            .does("answer", 1, 0, 0).due(0, "likeness", 0, 1).due(0, "likeness", 1, 0)
            .does("answer", 0, 0, 0).due(1, "likeness", 0, 1);
        run("17 answers next to one another are others").with(2, 1).does("answer", 0, 0, 9999).does("answer", 1, 0, 9998)
            .does("answer", 0, 0, 1).does("answer", 1, 0, 2).due(0, "likeness", 0, 1);
    }

    private static void likenessOfAllAnswers() {
        run("17 a hundred answers of each").with(2, 1).share(0, 1, 0, 100).due(100, "likeness", 0, 1)
            .due(100, "likeness", 1, 0).refused(STATE, "answer", 0, 0, 0).does("setBound", 20)
            .due(true, "areLinked", 0, 1);
    }

    private static void notTheKeyInCommon() {
        run("17 not if it is the key").with(2, 1).does("setBound", 1).does("answer", 0, 0, 0).does("answer", 1, 0, 0)
            .due(0, "likeness", 0, 1).due(false, "areLinked", 0, 1).due(false, "isVoid", 0, 0).due(10, "scoreAnew", 1);
    }

    private static void linkedFromTheBoundOn() {
        run("18 at least the bound, 3 at first").with(2, 1).share(0, 1, 0, 2).due(false, "areLinked", 0, 1)
            .share(0, 1, 0, 3).due(true, "areLinked", 0, 1).share(0, 1, 0, 4).due(true, "areLinked", 1, 0);
        run("18 at least 1").with(2, 1).does("setBound", 1).due(false, "areLinked", 0, 1).does("answer", 0, 0, 9)
            .due(false, "areLinked", 0, 1).does("answer", 1, 0, 9).due(true, "areLinked", 0, 1);
        Run run = run("18 at least 20").with(2, 1).does("setBound", MOST_BOUND).share(0, 1, 0, 19)
            .due(false, "areLinked", 0, 1);
        run.does("answer", 0, 0, 9).does("answer", 1, 0, 9).due(20, "likeness", 0, 1).due(true, "areLinked", 0, 1)
            .does("answer", 0, 0, 8).does("answer", 1, 0, 8).due(true, "areLinked", 0, 1)
            .does("pardon", 0, 1).due(false, "areLinked", 0, 1).due(false, "areLinked", 1, 0);
    }

    private static void linkedNotWithItself() {
        run("18 false for a team and itself").with(2, 1).does("setBound", 1).share(0, 1, 0, 5)
            .due(false, "areLinked", 0, 0).due(false, "areLinked", 1, 1).does("setBound", 20)
            .due(false, "areLinked", 0, 0);
    }

    private static void cheatedFromTheBoundOn() {
        run("19 from the third answer in common on").with(3, 4).share(0, 1, 0, 1).share(0, 1, 1, 1)
            .due(false, "isCheated", 0, 0).due(false, "isCheated", 1, 1).does("answer", 0, 3, 9)
            .does("answer", 2, 0, 5000).share(1, 0, 2, 1).due(true, "isCheated", 0, 0).due(true, "isCheated", 1, 1)
            .due(true, "isCheated", 0, 2).due(false, "isCheated", 0, 3).due(false, "isCheated", 2, 0)
            .does("setBound", 4).due(false, "isCheated", 0, 0).does("setBound", 3).due(true, "isCheated", 0, 0)
            .does("pardon", 0, 1).due(false, "isCheated", 0, 0).due(false, "isCheated", 1, 2);
    }

    private static void cheatedForAllTeams() {
        Run run = run("19 for all eight teams, in the last riddle").with(8, 16).does("setBound", 1);
        for (int team = 0; team < 8; team++) {
            run.due(false, "isCheated", team, 15).does("answer", team, 15, 9);
        }
        for (int team = 0; team < 8; team++) {
            run.due(true, "isCheated", team, 15).due(false, "isCheated", team, 0).due(1, "likeness", team, 7 - team);
        }
        for (int other = 1; other < 8; other++) {
            run.due(true, "isCheated", 0, 15).does("pardon", 0, other);
        }
        run.due(false, "isCheated", 0, 15).due(true, "isCheated", 7, 15);
    }

    private static void cheatedWithAnyOfThem() {
        run("19 in common with any team with which it is linked").with(3, 3).does("setBound", 1).share(0, 1, 0, 1)
            .share(0, 2, 2, 1).due(true, "isCheated", 0, 0).due(true, "isCheated", 0, 2).due(false, "isCheated", 0, 1)
            .due(false, "isCheated", 1, 2).due(false, "isCheated", 2, 0).does("answer", 2, 0, 0)
            .due(10, "score", 2).due(10, "scoreAnew", 2);
    }

    private static void voidOnlyIfSolved() {
        run("20 false if the team has not solved it").with(2, 2).does("need", 1, 0).share(0, 1, 0, 3)
            .due(true, "isCheated", 0, 0).due(false, "isVoid", 0, 0).due(false, "isVoid", 0, 1)
            .does("answer", 0, 0, 0).due(true, "isVoid", 0, 0).due(false, "isVoid", 0, 1).due(false, "isVoid", 1, 0)
            .does("answer", 0, 1, 1).due(true, "isVoid", 0, 1).due(0, "score", 0).due(0, "scoreAnew", 0);
    }

    private static void voidOverAllSixteen() {
        Run run = run("20 and what hangs on it, over all sixteen").with(2, 16);
        for (int riddle = 1; riddle < 16; riddle++) {
            run.due(1, "need", riddle, riddle - 1);
        }
        run.share(0, 1, 0, 3);
        for (int riddle = 0; riddle < 16; riddle++) {
            run.does("answer", 0, riddle, riddle).due(true, "isVoid", 0, riddle);
        }
        run.due(0, "score", 0).due(0, "scoreAnew", 0).does("setBound", 4).due(160, "score", 0).due(160, "scoreAnew", 0)
            .due(false, "isVoid", 0, 0).due(false, "isVoid", 0, 15).does("setBound", 3).due(true, "isVoid", 0, 15);
        run("20 only from the cheated one on").with(2, 3).does("need", 1, 0).does("need", 2, 1).does("answer", 0, 0, 0)
            .does("answer", 1, 0, 0).share(0, 1, 1, 3).does("answer", 0, 1, 1).does("answer", 0, 2, 2)
            .due(false, "isVoid", 0, 0).due(true, "isVoid", 0, 1).due(true, "isVoid", 0, 2).due(10, "score", 0);
    }

    private static void hangingOverAllSixteen() {
        Run chain = run("21 directly or over others, all sixteen").with(0, 16);
        Run star = run("21 directly, all sixteen").with(0, 16);
        for (int riddle = 1; riddle < 16; riddle++) {
            chain.due(1, "need", riddle, riddle - 1);
            star.due(1, "need", riddle, 0);
        }
        for (int riddle = 0; riddle < 16; riddle++) {
            chain.due(0xFFFF & -2 << riddle, "hanging", riddle);
            star.due(riddle == 0 ? 0xFFFE : 0, "hanging", riddle);
        }
        run("21 none").with(0, 1).due(0, "hanging", 0);
        run("21 the last needs the first").with(0, 16).does("need", 15, 0).due(32768, "hanging", 0).due(0, "hanging", 15);
    }
}
