import java.util.NoSuchElementException;

/** Each promise of the document: ordinary inputs, the edges that it names, wrong inputs. */
public final class PromiseTest {
    private static final Class<IndexOutOfBoundsException> NONE_SUCH = IndexOutOfBoundsException.class;
    private static final Class<IllegalArgumentException> BAD = IllegalArgumentException.class;
    private static final Class<IllegalStateException> STATE = IllegalStateException.class;
    private static final Class<NoSuchElementException> NO_ELEMENT = NoSuchElementException.class;
    private static final int[] NO_NUMBERS = {-1, 16, 100, Integer.MIN_VALUE, Integer.MAX_VALUE};

    private static final Check check = new Check();

    public static void main(String[] args) {
        newObject();
        pass();
        now();
        addRiddle();
        addRiddleUpToSixteen();
        need();
        needIsFixedByAnswersAndHints();
        addTeam();
        end();
        endStopsWhatItEnds();
        answer();
        answerUpToTwoHundred();
        hint();
        hintTakenIntoAccount();
        price();
        openedAt();
        solvedAt();
        clear();
        pardon();
        setBound();
        isFree();
        likeness();
        areLinked();
        isCheated();
        isVoid();
        hanging();
        score();
        scoreAnew();
        place();
        teamAt();
        setPrize();
        prize();
        refusedCallsChangeNothing();
        check.finish();
    }

    /** Riddles of 10 points whose key is their number, without a least time, at a first price of 20. */
    private static PuzzleRegistry game(int teams, int riddles) {
        PuzzleRegistry x = new PuzzleRegistry();
        for (int team = 0; team < teams; team++) {
            x.addTeam();
        }
        for (int riddle = 0; riddle < riddles; riddle++) {
            x.addRiddle(10, riddle, 0, 20);
        }
        return x;
    }

    /** Both teams give that many wrong answers, one after the other, to a riddle. */
    private static void share(PuzzleRegistry x, int team, int other, int riddle, int answers) {
        for (int word = 5000; word < 5000 + answers; word++) {
            x.answer(team, riddle, word);
            x.answer(other, riddle, word);
        }
    }

    private static void newObject() {
        PuzzleRegistry x = new PuzzleRegistry();
        check.due("1 minute", 0, x::now);
        check.due("1 no team", PuzzleRegistry.NONE, () -> x.teamAt(0));
        check.refused("1 no team's score", NONE_SUCH, () -> x.score(0));
        check.refused("1 no riddle", NONE_SUCH, () -> x.isFree(0));
        check.due("1 first prize", 0, () -> x.setPrize(1, 5));
        check.due("1 last prize", 0, () -> x.setPrize(8, 5));
        check.due("1 first bound", 3, () -> x.setBound(3));
        check.due("1 first riddle", 0, () -> x.addRiddle(1, 0, 0, 1));
        check.due("1 first team", 0, x::addTeam);
    }

    private static void pass() {
        PuzzleRegistry x = new PuzzleRegistry();
        for (int minutes : new int[] {0, -1, 501, Integer.MIN_VALUE, Integer.MAX_VALUE}) {
            check.refused("2 pass out of range", BAD, () -> x.pass(minutes));
        }
        check.due("2 least", 1, () -> x.pass(1));
        check.due("2 most", 501, () -> x.pass(500));
        while (x.now() < 19501) {
            x.pass(500);
        }
        check.refused("2 beyond the last minute", STATE, () -> x.pass(500));
        check.due("2 up to the last minute", 20000, () -> x.pass(499));
        check.refused("2 one beyond the last minute", STATE, () -> x.pass(1));
        check.refused("2 the range comes first", BAD, () -> x.pass(501));
        x.end();
        PuzzleRegistry y = new PuzzleRegistry();
        y.end();
        check.due("2 after the end", 7, () -> y.pass(7));
    }

    private static void now() {
        PuzzleRegistry x = new PuzzleRegistry();
        x.pass(3);
        x.pass(4);
        check.due("3 the sum", 7, x::now);
        check.refused("3 refused pass", BAD, () -> x.pass(0));
        check.due("3 the same after it", 7, x::now);
    }

    private static void addRiddle() {
        PuzzleRegistry x = new PuzzleRegistry();
        int[][] wrong = {{0, 0, 0, 1}, {51, 0, 0, 1}, {1, -1, 0, 1}, {1, 10000, 0, 1}, {1, 0, -1, 1},
            {1, 0, 101, 1}, {1, 0, 0, 0}, {1, 0, 0, 41}, {Integer.MIN_VALUE, 0, 0, 1}, {1, 0, 0, Integer.MAX_VALUE}};
        for (int[] w : wrong) {
            check.refused("4 out of range", BAD, () -> x.addRiddle(w[0], w[1], w[2], w[3]));
        }
        check.due("4 least", 0, () -> x.addRiddle(1, 0, 0, 1));
        check.due("4 most", 1, () -> x.addRiddle(50, 9999, 100, 40));
        x.addTeam();
        check.due("4 its price", 40, () -> x.price(0, 1));
        x.pass(99);
        check.due("4 its key", true, () -> x.answer(0, 1, 9999));
        check.due("4 its least time", true, () -> x.isFree(1));
        x.clear(0, 1);
        check.due("4 its points", 50, () -> x.score(0));
        x.end();
        check.refused("4 after the end", STATE, () -> x.addRiddle(1, 0, 0, 1));
        check.refused("4 the range comes first", BAD, () -> x.addRiddle(0, 0, 0, 1));
    }

    private static void addRiddleUpToSixteen() {
        PuzzleRegistry x = game(1, 15);
        check.due("4 the sixteenth", 15, () -> x.addRiddle(1, 0, 0, 1));
        check.refused("4 the seventeenth", STATE, () -> x.addRiddle(1, 0, 0, 1));
        check.refused("4 wrong after sixteen", BAD, () -> x.addRiddle(1, 0, 0, 41));
        check.due("4 still sixteen", false, () -> x.isFree(15));
        check.refused("4 not seventeen", NONE_SUCH, () -> x.isFree(16));
    }

    private static void need() {
        PuzzleRegistry x = game(1, 4);
        check.due("5 one", 1, () -> x.need(3, 0));
        check.due("5 two", 2, () -> x.need(3, 2));
        check.due("5 another", 1, () -> x.need(2, 0));
        check.refused("5 again", STATE, () -> x.need(3, 2));
        check.refused("5 itself", BAD, () -> x.need(2, 2));
        check.refused("5 a greater one", BAD, () -> x.need(0, 2));
        check.refused("5 no such riddle", NONE_SUCH, () -> x.need(4, 0));
        check.refused("5 no such other", NONE_SUCH, () -> x.need(0, 4));
        for (int number : NO_NUMBERS) {
            check.refused("5 no riddle", NONE_SUCH, () -> x.need(number, 0));
            check.refused("5 no other", NONE_SUCH, () -> x.need(0, number));
        }
        check.due("5 three", 3, () -> x.need(3, 1));
        x.end();
        check.refused("5 after the end", STATE, () -> x.need(2, 1));
        check.refused("5 the numbers come first", BAD, () -> x.need(1, 1));
        check.refused("5 no such comes first", NONE_SUCH, () -> x.need(1, 4));
    }

    private static void needIsFixedByAnswersAndHints() {
        PuzzleRegistry x = game(2, 4);
        x.answer(1, 1, 77);
        check.refused("5 answered", STATE, () -> x.need(1, 0));
        x.hint(0, 2);
        check.refused("5 hinted", STATE, () -> x.need(2, 0));
        check.refused("5 answered before the hint", STATE, () -> x.need(1, 0));
        check.due("5 the answered one can be needed", 1, () -> x.need(3, 1));
        check.due("5 the hinted one can be needed", 2, () -> x.need(3, 2));
        check.refused("5 not open", STATE, () -> x.answer(0, 3, 0));
        check.due("5 a refused answer does not fix it", 3, () -> x.need(3, 0));
        x.answer(0, 0, 77);
        check.refused("5 hinted before the answer", STATE, () -> x.need(2, 0));
    }

    private static void addTeam() {
        PuzzleRegistry x = game(7, 0);
        check.due("6 the eighth", 7, x::addTeam);
        check.refused("6 the ninth", STATE, x::addTeam);
        check.refused("6 no ninth", NONE_SUCH, () -> x.score(8));
        PuzzleRegistry y = game(1, 0);
        y.end();
        check.refused("6 after the end", STATE, y::addTeam);
    }

    private static void end() {
        check.due("7 none free", 0, () -> game(1, 2).end());
        PuzzleRegistry x = game(2, 0);
        for (int riddle = 0; riddle < 3; riddle++) {
            x.addRiddle(1, 0, 1, 1);
            x.answer(0, riddle, 0);
            x.answer(1, riddle, 0);
        }
        x.clear(0, 1);
        x.clear(0, 2);
        x.clear(1, 2);
        check.due("7 two free", 2, x::end);
        check.refused("7 twice", STATE, x::end);
    }

    private static void endStopsWhatItEnds() {
        PuzzleRegistry x = game(2, 2);
        x.end();
        check.refused("7 no answer", STATE, () -> x.answer(0, 0, 0));
        check.refused("7 no hint", STATE, () -> x.hint(0, 0));
        check.due("7 the price is still told", 20, () -> x.price(0, 0));
        check.due("7 pardon goes on", true, () -> x.pardon(0, 1));
        check.due("7 bound goes on", 3, () -> x.setBound(1));
        check.due("7 prizes go on", 0, () -> x.setPrize(1, 1));
    }

    private static void answer() {
        PuzzleRegistry x = game(2, 2);
        x.need(1, 0);
        check.due("8 wrong", false, () -> x.answer(0, 0, 9999));
        check.due("8 right", true, () -> x.answer(0, 0, 0));
        check.refused("8 solved", STATE, () -> x.answer(0, 0, 0));
        check.refused("8 solved, wrong", STATE, () -> x.answer(0, 0, 1));
        check.due("8 now open", true, () -> x.answer(0, 1, 1));
        check.refused("8 not open for the other", STATE, () -> x.answer(1, 1, 1));
        for (int word : new int[] {-1, 10000, Integer.MIN_VALUE, Integer.MAX_VALUE}) {
            check.refused("8 out of range", BAD, () -> x.answer(1, 0, word));
            check.refused("8 the range comes before solved", BAD, () -> x.answer(0, 0, word));
        }
        for (int number : NO_NUMBERS) {
            check.refused("8 no team", NONE_SUCH, () -> x.answer(number, 0, 0));
            check.refused("8 no riddle", NONE_SUCH, () -> x.answer(0, number, -1));
        }
        x.end();
        check.refused("8 ended", STATE, () -> x.answer(1, 0, 0));
    }

    private static void answerUpToTwoHundred() {
        PuzzleRegistry x = game(2, 2);
        for (int word = 1; word < 200; word++) {
            x.answer(word % 2, 0, 100 + word / 7);
        }
        check.refused("8 a refused one does not count", BAD, () -> x.answer(0, 0, 10000));
        check.due("8 the two hundredth", true, () -> x.answer(0, 0, 0));
        check.refused("8 one more", STATE, () -> x.answer(1, 0, 0));
        check.refused("8 one more of another riddle", STATE, () -> x.answer(1, 1, 0));
        check.due("8 all are counted anew", 1, () -> x.setBound(20) > 0 ? x.scoreAnew(0) == x.score(0) ? 1 : 0 : 0);
        check.due("8 hints are still sold", 20, () -> x.hint(1, 0));
    }

    private static void hint() {
        PuzzleRegistry x = game(3, 2);
        x.need(1, 0);
        check.due("9 first of the first team", 20, () -> x.hint(0, 0));
        check.due("9 first of the second team", 19, () -> x.hint(1, 0));
        check.due("9 second of the second team", 20, () -> x.hint(1, 0));
        check.due("9 second of the first team", 19, () -> x.hint(0, 0));
        check.due("9 first of the third team", 18, () -> x.hint(2, 0));
        check.due("9 third", 20, () -> x.hint(0, 0));
        check.refused("9 fourth", STATE, () -> x.hint(0, 0));
        check.refused("9 not open", STATE, () -> x.hint(0, 1));
        x.answer(1, 0, 0);
        check.refused("9 solved", STATE, () -> x.hint(1, 0));
        check.due("9 own rows for each riddle", 20, () -> x.hint(1, 1));
        for (int number : NO_NUMBERS) {
            check.refused("9 no team", NONE_SUCH, () -> x.hint(number, 0));
            check.refused("9 no riddle", NONE_SUCH, () -> x.hint(0, number));
        }
        x.end();
        check.refused("9 ended", STATE, () -> x.hint(2, 0));
    }

    private static void hintTakenIntoAccount() {
        PuzzleRegistry x = new PuzzleRegistry();
        x.addTeam();
        x.addRiddle(10, 0, 0, 2);
        x.pass(10);
        check.due("9 one rebate", 1, () -> x.hint(0, 0));
        x.pass(500);
        check.due("9 never below 1", 1, () -> x.hint(0, 0));
        check.due("9 paid", -2, () -> x.score(0));
    }

    private static void price() {
        PuzzleRegistry x = game(2, 2);
        x.need(1, 0);
        x.pass(9);
        check.due("10 nine minutes are no tenth", 20, () -> x.price(0, 0));
        x.pass(1);
        check.due("10 ten minutes", 19, () -> x.price(0, 0));
        check.refused("10 not open", NO_ELEMENT, () -> x.price(0, 1));
        x.answer(0, 0, 0);
        check.due("10 solved: still told", 19, () -> x.price(0, 0));
        check.due("10 counts since it opened", 20, () -> x.price(0, 1));
        x.pass(185);
        check.due("10 rounded down", 2, () -> x.price(0, 1));
        x.pass(500);
        check.due("10 at least 1", 1, () -> x.price(0, 1));
        x.hint(0, 1);
        x.hint(0, 1);
        x.hint(0, 1);
        check.refused("10 three hints", NO_ELEMENT, () -> x.price(0, 1));
        check.refused("10 not open for the other", NO_ELEMENT, () -> x.price(1, 1));
        for (int number : NO_NUMBERS) {
            check.refused("10 no team", NONE_SUCH, () -> x.price(number, 1));
            check.refused("10 no riddle", NONE_SUCH, () -> x.price(0, number));
        }
    }

    private static void openedAt() {
        PuzzleRegistry x = game(1, 4);
        x.need(3, 0);
        x.need(3, 1);
        check.due("11 no needs", 0, () -> x.openedAt(0, 0));
        x.pass(5);
        x.answer(0, 1, 1);
        check.due("11 one of two", PuzzleRegistry.NONE, () -> x.openedAt(0, 3));
        x.pass(5);
        x.answer(0, 0, 0);
        x.pass(5);
        check.due("11 the greatest minute", 10, () -> x.openedAt(0, 3));
        x.need(2, 1);
        check.due("11 a need that came later", 5, () -> x.openedAt(0, 2));
        int later = x.addRiddle(1, 1, 1, 1);
        int team = x.addTeam();
        check.due("11 a later riddle", 0, () -> x.openedAt(0, later));
        check.due("11 a later team", 0, () -> x.openedAt(team, later));
        check.due("11 not for the later team", PuzzleRegistry.NONE, () -> x.openedAt(team, 3));
        for (int number : NO_NUMBERS) {
            check.refused("11 no team", NONE_SUCH, () -> x.openedAt(number, 0));
            check.refused("11 no riddle", NONE_SUCH, () -> x.openedAt(0, number));
        }
    }

    private static void solvedAt() {
        PuzzleRegistry x = game(2, 2);
        check.due("12 at first", PuzzleRegistry.NONE, () -> x.solvedAt(0, 0));
        x.answer(0, 0, 0);
        check.due("12 in the minute 0", 0, () -> x.solvedAt(0, 0));
        x.pass(8);
        x.answer(1, 1, 0);
        check.due("12 a wrong answer", PuzzleRegistry.NONE, () -> x.solvedAt(1, 1));
        x.answer(1, 1, 1);
        x.pass(8);
        check.due("12 later", 8, () -> x.solvedAt(1, 1));
        check.due("12 not the other", PuzzleRegistry.NONE, () -> x.solvedAt(0, 1));
        for (int number : NO_NUMBERS) {
            check.refused("12 no team", NONE_SUCH, () -> x.solvedAt(number, 0));
            check.refused("12 no riddle", NONE_SUCH, () -> x.solvedAt(0, number));
        }
    }

    private static void clear() {
        PuzzleRegistry x = game(3, 1);
        int quick = x.addRiddle(7, 7, 10, 1);
        check.refused("13 not solved", STATE, () -> x.clear(0, quick));
        x.pass(9);
        x.answer(0, quick, 7);
        x.answer(1, quick, 7);
        x.pass(1);
        x.answer(2, quick, 7);
        x.answer(0, 0, 0);
        check.refused("13 just in time", STATE, () -> x.clear(2, quick));
        check.refused("13 in time", STATE, () -> x.clear(0, 0));
        check.due("13 free all the same", true, () -> x.clear(0, quick));
        check.refused("13 twice", STATE, () -> x.clear(0, quick));
        int second = x.addRiddle(7, 7, 100, 1);
        x.answer(0, second, 7);
        check.due("13 another one", false, () -> x.clear(0, second));
        check.refused("13 the first again", STATE, () -> x.clear(0, quick));
        x.end();
        check.due("13 the last one, after the end", false, () -> x.clear(1, quick));
        check.due("13 counts now", 7, () -> x.score(1));
        check.due("13 counts for all", 7, () -> x.score(2));
        check.due("13 none is free", false, () -> x.isFree(quick) || x.isFree(second));
        for (int number : NO_NUMBERS) {
            check.refused("13 no team", NONE_SUCH, () -> x.clear(number, quick));
            check.refused("13 no riddle", NONE_SUCH, () -> x.clear(0, number));
        }
    }

    private static void pardon() {
        PuzzleRegistry x = game(3, 1);
        share(x, 0, 1, 0, 3);
        check.due("14 pardoned", true, () -> x.pardon(1, 0));
        check.due("14 both ways", false, () -> x.areLinked(0, 1));
        check.due("14 taken back", false, () -> x.pardon(0, 1));
        check.due("14 linked again", true, () -> x.areLinked(1, 0));
        check.due("14 unlike ones too", true, () -> x.pardon(0, 2));
        check.due("14 the others stay", true, () -> x.areLinked(0, 1));
        check.refused("14 the same", BAD, () -> x.pardon(2, 2));
        check.refused("14 no such comes first", NONE_SUCH, () -> x.pardon(3, 3));
        for (int number : NO_NUMBERS) {
            check.refused("14 no team", NONE_SUCH, () -> x.pardon(number, 0));
            check.refused("14 no other", NONE_SUCH, () -> x.pardon(0, number));
        }
    }

    private static void setBound() {
        PuzzleRegistry x = game(2, 1);
        for (int bound : new int[] {0, -1, 21, Integer.MIN_VALUE, Integer.MAX_VALUE}) {
            check.refused("15 out of range", BAD, () -> x.setBound(bound));
        }
        check.due("15 before", 3, () -> x.setBound(20));
        share(x, 0, 1, 0, 19);
        check.due("15 below", false, () -> x.areLinked(0, 1));
        share(x, 0, 1, 0, 20);
        check.due("15 as much", true, () -> x.areLinked(0, 1));
        check.due("15 before again", 20, () -> x.setBound(1));
        check.due("15 the least", 1, () -> x.setBound(2));
    }

    private static void isFree() {
        PuzzleRegistry x = game(2, 1);
        int quick = x.addRiddle(7, 7, 10, 1);
        x.need(quick, 0);
        x.pass(100);
        x.answer(0, 0, 0);
        x.pass(9);
        check.due("16 at first", false, () -> x.isFree(quick));
        x.answer(0, quick, 8);
        check.due("16 a wrong answer", false, () -> x.isFree(quick));
        x.answer(0, quick, 7);
        check.due("16 too soon", true, () -> x.isFree(quick));
        check.due("16 without a least time", false, () -> x.isFree(0));
        x.clear(0, quick);
        check.due("16 cleared", false, () -> x.isFree(quick));
        x.answer(1, 0, 0);
        x.pass(10);
        x.answer(1, quick, 7);
        check.due("16 just in time", false, () -> x.isFree(quick));
        for (int number : NO_NUMBERS) {
            check.refused("16 no riddle", NONE_SUCH, () -> x.isFree(number));
        }
    }

    private static void likeness() {
        PuzzleRegistry x = game(3, 3);
        x.answer(2, 0, 6000);
        check.due("17 given by one alone", 0, () -> x.likeness(2, 0) + x.likeness(2, 1));
        share(x, 0, 1, 0, 2);
        check.due("17 two", 2, () -> x.likeness(0, 1));
        share(x, 1, 0, 0, 2);
        x.answer(1, 0, 5000);
        check.due("17 each once", 2, () -> x.likeness(1, 0));
        x.answer(0, 1, 5000);
        check.due("17 another riddle is another answer", 2, () -> x.likeness(0, 1));
        x.answer(1, 1, 5000);
        check.due("17 in common there too", 3, () -> x.likeness(0, 1));
        x.answer(0, 2, 2);
        x.answer(1, 2, 2);
        check.due("17 not the key", 3, () -> x.likeness(0, 1));
        check.due("17 the third", 0, () -> x.likeness(2, 0));
        check.due("17 itself", 0, () -> x.likeness(0, 0));
        x.pardon(0, 1);
        check.due("17 the same when pardoned", 3, () -> x.likeness(0, 1));
        for (int number : NO_NUMBERS) {
            check.refused("17 no team", NONE_SUCH, () -> x.likeness(number, 0));
            check.refused("17 no other", NONE_SUCH, () -> x.likeness(0, number));
        }
    }

    private static void areLinked() {
        PuzzleRegistry x = game(2, 1);
        share(x, 0, 1, 0, 2);
        check.due("18 two", false, () -> x.areLinked(0, 1));
        share(x, 0, 1, 0, 3);
        check.due("18 three", true, () -> x.areLinked(0, 1));
        check.due("18 the other way", true, () -> x.areLinked(1, 0));
        check.due("18 itself", false, () -> x.areLinked(0, 0));
        for (int number : NO_NUMBERS) {
            check.refused("18 no team", NONE_SUCH, () -> x.areLinked(number, 0));
            check.refused("18 no other", NONE_SUCH, () -> x.areLinked(0, number));
        }
    }

    private static void isCheated() {
        PuzzleRegistry x = game(3, 3);
        share(x, 0, 1, 0, 2);
        x.answer(2, 0, 5000);
        check.due("19 not linked", false, () -> x.isCheated(0, 0));
        share(x, 0, 1, 1, 1);
        check.due("19 linked", true, () -> x.isCheated(0, 0));
        check.due("19 the other", true, () -> x.isCheated(1, 1));
        check.due("19 not the third", false, () -> x.isCheated(2, 0));
        check.due("19 nothing in common there", false, () -> x.isCheated(0, 2));
        x.answer(0, 2, 9);
        x.answer(2, 2, 9);
        check.due("19 in common with another alone", false, () -> x.isCheated(0, 2));
        check.due("19 both riddles", true, () -> x.isCheated(0, 0) && x.isCheated(0, 1));
        check.due("19 both riddles of the other", true, () -> x.isCheated(1, 0) && x.isCheated(1, 1));
        x.setBound(1);
        check.due("19 the first of two linked", true, () -> x.isCheated(0, 1));
        check.due("19 the second of two linked", true, () -> x.isCheated(0, 2));
        for (int number : NO_NUMBERS) {
            check.refused("19 no team", NONE_SUCH, () -> x.isCheated(number, 0));
            check.refused("19 no riddle", NONE_SUCH, () -> x.isCheated(0, number));
        }
    }

    private static void isVoid() {
        PuzzleRegistry x = game(2, 5);
        x.need(2, 1);
        x.need(3, 2);
        share(x, 0, 1, 1, 3);
        check.due("20 cheated, not solved", false, () -> x.isVoid(0, 1));
        for (int riddle = 0; riddle < 4; riddle++) {
            x.answer(0, riddle, riddle);
        }
        check.due("20 cheated and solved", true, () -> x.isVoid(0, 1));
        check.due("20 needs it", true, () -> x.isVoid(0, 2));
        check.due("20 needs it over another", true, () -> x.isVoid(0, 3));
        check.due("20 does not need it", false, () -> x.isVoid(0, 0));
        check.due("20 not solved by the other", false, () -> x.isVoid(1, 1));
        x.setBound(4);
        check.due("20 the bound", false, () -> x.isVoid(0, 3));
        for (int number : NO_NUMBERS) {
            check.refused("20 no team", NONE_SUCH, () -> x.isVoid(number, 0));
            check.refused("20 no riddle", NONE_SUCH, () -> x.isVoid(0, number));
        }
    }

    private static void hanging() {
        PuzzleRegistry x = game(0, 16);
        check.due("21 none", 0, () -> x.hanging(0));
        x.need(15, 14);
        x.need(14, 2);
        x.need(2, 0);
        x.need(14, 1);
        check.due("21 over others", 1 << 2 | 1 << 14 | 1 << 15, () -> x.hanging(0));
        check.due("21 two", 1 << 14 | 1 << 15, () -> x.hanging(1));
        check.due("21 one", 1 << 15, () -> x.hanging(14));
        check.due("21 the last", 0, () -> x.hanging(15));
        for (int number : NO_NUMBERS) {
            check.refused("21 no riddle", NONE_SUCH, () -> x.hanging(number));
        }
    }

    private static void score() {
        PuzzleRegistry x = game(2, 2);
        check.due("22 at first", 0, () -> x.score(0));
        x.hint(0, 0);
        check.due("22 below 0", -20, () -> x.score(0));
        x.answer(0, 0, 0);
        check.due("22 less the hint", -10, () -> x.score(0));
        int quick = x.addRiddle(50, 1, 1, 4);
        x.hint(1, quick);
        x.answer(0, quick, 1);
        check.due("22 a free one does not count", -10, () -> x.score(0));
        check.due("22 nor do its hints", 0, () -> x.score(1));
        x.clear(0, quick);
        check.due("22 cleared", 40, () -> x.score(0));
        check.due("22 its hints count again", -4, () -> x.score(1));
        share(x, 0, 1, 1, 3);
        x.hint(0, 1);
        x.answer(0, 1, 1);
        check.due("22 void, but its hint is paid", 20, () -> x.score(0));
        x.pardon(0, 1);
        check.due("22 pardoned", 30, () -> x.score(0));
        for (int number : NO_NUMBERS) {
            check.refused("22 no team", NONE_SUCH, () -> x.score(number));
        }
    }

    private static void scoreAnew() {
        PuzzleRegistry x = game(3, 3);
        x.need(2, 1);
        int quick = x.addRiddle(50, 1, 1, 4);
        share(x, 0, 1, 0, 2);
        share(x, 0, 1, 0, 2);
        share(x, 0, 1, 1, 1);
        x.answer(0, 1, 1);
        x.answer(0, 2, 2);
        x.hint(0, quick);
        x.hint(2, 0);
        check.due("23 void", -4, () -> x.scoreAnew(0));
        check.due("23 the third", -20, () -> x.scoreAnew(2));
        x.answer(1, quick, 1);
        check.due("23 another team makes it free", 0, () -> x.scoreAnew(0));
        x.setBound(4);
        check.due("23 the bound", 20, () -> x.scoreAnew(0));
        x.clear(1, quick);
        check.due("23 cleared", 16, () -> x.scoreAnew(0));
        check.due("23 cleared for the solver", 50, () -> x.scoreAnew(1));
        check.due("23 as it is kept", 16, () -> x.score(0));
        scoreAnewFromTheFirstAnswer();
        for (int number : NO_NUMBERS) {
            check.refused("23 no team", NONE_SUCH, () -> x.scoreAnew(number));
        }
    }

    private static void scoreAnewFromTheFirstAnswer() {
        PuzzleRegistry x = game(2, 1);
        int quick = x.addRiddle(5, 1, 9, 4);
        x.pass(9);
        x.answer(0, quick, 1);
        check.due("23 just in time", 5, () -> x.scoreAnew(0));
        check.due("23 the first answer is right", 0, () -> x.scoreAnew(1));
        PuzzleRegistry y = game(2, 1);
        y.setBound(1);
        y.answer(0, 0, 5);
        y.answer(1, 0, 5);
        y.answer(1, 0, 0);
        y.answer(0, 0, 0);
        check.due("23 the first answer is in common", 0, () -> y.scoreAnew(1));
        check.due("23 for both", 0, () -> y.scoreAnew(0));
        PuzzleRegistry z = game(2, 2);
        share(z, 0, 1, 1, 3);
        z.answer(0, 0, 0);
        z.answer(0, 1, 1);
        check.due("23 linked, but only one riddle cheated", 10, () -> z.scoreAnew(0));
    }

    /** Team 0 and 1 with 10 points each in the minute 0, team 2 with as many in 5, team 3 with 20, team 4 with -20. */
    private static PuzzleRegistry ranked() {
        PuzzleRegistry x = game(5, 2);
        x.answer(0, 0, 0);
        x.answer(1, 1, 1);
        x.hint(4, 0);
        x.pass(5);
        x.answer(2, 0, 0);
        x.answer(3, 0, 0);
        x.answer(3, 1, 1);
        return x;
    }

    private static void place() {
        PuzzleRegistry x = ranked();
        int[] places = {2, 2, 4, 1, 5};
        for (int team = 0; team < 5; team++) {
            int number = team;
            check.due("24 place of " + team, places[team], () -> x.place(number));
        }
        int quick = x.addRiddle(1, 1, 100, 1);
        x.pass(5);
        x.answer(0, quick, 1);
        check.due("24 a free one changes no last minute", 2, () -> x.place(0));
        x.clear(0, quick);
        check.due("24 cleared", 2, () -> x.place(0));
        check.due("24 the other is behind", 3, () -> x.place(1));
        for (int number : NO_NUMBERS) {
            check.refused("24 no team", NONE_SUCH, () -> x.place(number));
        }
    }

    private static void teamAt() {
        PuzzleRegistry x = ranked();
        int[] order = {3, 0, 1, 2, 4};
        for (int at = 0; at < 5; at++) {
            int where = at;
            check.due("25 team at " + at, order[at], () -> x.teamAt(where));
        }
        for (int at : new int[] {5, 8, -1, Integer.MIN_VALUE, Integer.MAX_VALUE}) {
            check.due("25 none", PuzzleRegistry.NONE, () -> x.teamAt(at));
        }
    }

    private static void setPrize() {
        PuzzleRegistry x = game(1, 0);
        int[][] wrong = {{0, 1}, {9, 1}, {-1, 1}, {1, -1}, {1, 1001}, {Integer.MIN_VALUE, 0}, {Integer.MAX_VALUE, 0}};
        for (int[] w : wrong) {
            check.refused("26 out of range", BAD, () -> x.setPrize(w[0], w[1]));
        }
        check.due("26 first", 0, () -> x.setPrize(1, 1000));
        check.due("26 last", 0, () -> x.setPrize(8, 3));
        check.due("26 before", 1000, () -> x.setPrize(1, 0));
        check.due("26 before at the last", 3, () -> x.setPrize(8, 1000));
        check.due("26 nothing", 0, () -> x.setPrize(1, 9));
        x.end();
        check.due("26 after the end", 9, () -> x.setPrize(1, 11));
        check.due("26 it is given", 11, () -> x.prize(0));
    }

    private static void prize() {
        PuzzleRegistry x = ranked();
        int[] coins = {100, 20, 11, 4, 7};
        for (int place = 1; place <= 5; place++) {
            x.setPrize(place, coins[place - 1]);
        }
        check.refused("27 not ended", STATE, () -> x.prize(0));
        check.refused("27 no such comes first", NONE_SUCH, () -> x.prize(5));
        x.end();
        int[] prizes = {15, 15, 4, 100, 7};
        for (int team = 0; team < 5; team++) {
            int number = team;
            check.due("27 prize of " + team, prizes[team], () -> x.prize(number));
        }
        for (int number : NO_NUMBERS) {
            check.refused("27 no team", NONE_SUCH, () -> x.prize(number));
        }
        PuzzleRegistry y = game(8, 0);
        for (int place = 1; place <= 8; place++) {
            y.setPrize(place, 1000);
        }
        y.setPrize(8, 999);
        y.end();
        check.due("27 all eight share all", 999, () -> y.prize(7));
    }

    private static void refusedCallsChangeNothing() {
        PuzzleRegistry x = game(2, 2);
        x.need(1, 0);
        check.refused("wrong need", BAD, () -> x.need(1, 1));
        check.refused("wrong answer", STATE, () -> x.answer(0, 1, 1));
        check.refused("wrong hint", STATE, () -> x.hint(0, 1));
        check.refused("wrong clear", STATE, () -> x.clear(0, 0));
        check.refused("wrong bound", BAD, () -> x.setBound(21));
        check.refused("wrong prize", BAD, () -> x.setPrize(1, 1001));
        check.due("nothing solved", PuzzleRegistry.NONE, () -> x.solvedAt(0, 1));
        check.due("nothing paid", 0, () -> x.score(0));
        check.due("no other bound", 3, () -> x.setBound(3));
        check.due("no other prize", 0, () -> x.setPrize(1, 0));
        check.due("no third riddle", 2, () -> x.addRiddle(1, 1, 1, 1));
    }
}
