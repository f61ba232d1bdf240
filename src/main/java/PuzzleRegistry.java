import java.util.Arrays;
import java.util.NoSuchElementException;

/**
 * A prize draw of riddles with a hint shop and a cheat watch.
 *
 * Sets of riddles and sets of teams are bit masks: bit n stands for the number n.
 */
public final class PuzzleRegistry {
    public static final int NONE = -1;

    private static final int MAX_RIDDLES = 16;
    private static final int MAX_TEAMS = 8;
    private static final int MAX_HINTS = 3;
    private static final int MAX_ANSWERS = 200;
    private static final int MAX_MINUTE = 20000;
    private static final int MAX_PASS = 500;
    private static final int MAX_POINTS = 50;
    private static final int MAX_WORD = 9999;
    private static final int MAX_LEAST_TIME = 100;
    private static final int MAX_FIRST_PRICE = 40;
    private static final int MAX_BOUND = 20;
    private static final int MAX_COINS = 1000;
    private static final int FIRST_BOUND = 3;
    private static final int LEAST_PRICE = 1;
    private static final int MINUTES_PER_REBATE = 10;

    private final Riddles riddles = new Riddles();
    private final Answers answers = new Answers();
    private final Sales sales = new Sales();
    private final Judge judge = new Judge();
    private final Records kept = new Records();
    private final Records anew = new Records();
    private final int[] scores = new int[MAX_TEAMS];
    private final int[] lastMinutes = new int[MAX_TEAMS];
    private final int[] prizes = new int[MAX_TEAMS];
    private int teamCount;
    private int minute;
    private boolean ended;

    public PuzzleRegistry() {
    }

    // ---- minutes, riddles, teams

    public int pass(int minutes) throws IllegalArgumentException, IllegalStateException {
        requireRange(minutes, 1, MAX_PASS);
        if (minutes > MAX_MINUTE - minute) {
            throw new IllegalStateException("the minute would be too late");
        }
        minute += minutes;
        return minute;
    }

    public int now() {
        return minute;
    }

    public int addRiddle(int points, int key, int least, int price)
            throws IllegalArgumentException, IllegalStateException {
        requireRange(points, 1, MAX_POINTS);
        requireRange(key, 0, MAX_WORD);
        requireRange(least, 0, MAX_LEAST_TIME);
        requireRange(price, 1, MAX_FIRST_PRICE);
        if (ended || riddles.count >= MAX_RIDDLES) {
            throw new IllegalStateException("no more riddles are taken");
        }
        return riddles.append(points, key, least, price);
    }

    public int need(int riddle, int other)
            throws IndexOutOfBoundsException, IllegalArgumentException, IllegalStateException {
        requireRiddle(riddle);
        requireRiddle(other);
        if (other >= riddle) {
            throw new IllegalArgumentException("only a riddle with a lower number can be needed");
        }
        if (ended || has(riddles.touched, riddle) || has(riddles.needs[riddle], other)) {
            throw new IllegalStateException("the riddle can't need this one any more");
        }
        riddles.needs[riddle] |= bit(other);
        return Integer.bitCount(riddles.needs[riddle]);
    }

    public int addTeam() throws IllegalStateException {
        if (ended || teamCount >= MAX_TEAMS) {
            throw new IllegalStateException("no more teams are taken");
        }
        return teamCount++;
    }

    public int end() throws IllegalStateException {
        if (ended) {
            throw new IllegalStateException("it has ended");
        }
        ended = true;
        return Integer.bitCount(freeSet(kept));
    }

    // ---- answers and hints

    public boolean answer(int team, int riddle, int word)
            throws IndexOutOfBoundsException, IllegalArgumentException, IllegalStateException {
        requireTeam(team);
        requireRiddle(riddle);
        requireRange(word, 0, MAX_WORD);
        if (!isUnderWay(team, riddle) || answers.count >= MAX_ANSWERS) {
            throw new IllegalStateException("no answer is taken");
        }
        boolean right = word == riddles.keys[riddle];
        if (right) {
            noteSolved(kept, team, riddle, minute);
        } else {
            noteWrong(team, riddle, word);
        }
        answers.append(team, riddle, word, minute);
        riddles.touched |= bit(riddle);
        return right;
    }

    public int hint(int team, int riddle) throws IndexOutOfBoundsException, IllegalStateException {
        requireTeam(team);
        requireRiddle(riddle);
        if (!isUnderWay(team, riddle) || !hasHintsLeft(team, riddle)) {
            throw new IllegalStateException("no hint is sold");
        }
        int coins = nextPrice(team, riddle);
        sales.append(team, riddle, coins);
        kept.pay(team, riddle, coins);
        riddles.touched |= bit(riddle);
        return coins;
    }

    public int price(int team, int riddle) throws IndexOutOfBoundsException, NoSuchElementException {
        requireTeam(team);
        requireRiddle(riddle);
        if (openMinute(kept, team, riddle) == NONE || !hasHintsLeft(team, riddle)) {
            throw new NoSuchElementException("there is no next hint");
        }
        return nextPrice(team, riddle);
    }

    public int openedAt(int team, int riddle) throws IndexOutOfBoundsException {
        requireTeam(team);
        requireRiddle(riddle);
        return openMinute(kept, team, riddle);
    }

    public int solvedAt(int team, int riddle) throws IndexOutOfBoundsException {
        requireTeam(team);
        requireRiddle(riddle);
        return has(kept.solved[team], riddle) ? kept.solveMinutes[cell(team, riddle)] : NONE;
    }

    // ---- the judge

    public boolean clear(int team, int riddle) throws IndexOutOfBoundsException, IllegalStateException {
        requireTeam(team);
        requireRiddle(riddle);
        if (!has(kept.tooSoon[team], riddle) || has(judge.cleared[team], riddle)) {
            throw new IllegalStateException("there is nothing to clear the team of");
        }
        judge.cleared[team] |= bit(riddle);
        return has(freeSet(kept), riddle);
    }

    public boolean pardon(int team, int other) throws IndexOutOfBoundsException, IllegalArgumentException {
        requireTeam(team);
        requireTeam(other);
        if (team == other) {
            throw new IllegalArgumentException("a team is pardoned with another one");
        }
        return judge.switchPardon(team, other);
    }

    public int setBound(int bound) throws IllegalArgumentException {
        requireRange(bound, 1, MAX_BOUND);
        int before = judge.bound;
        judge.bound = bound;
        return before;
    }

    // ---- the watch

    public boolean isFree(int riddle) throws IndexOutOfBoundsException {
        requireRiddle(riddle);
        return has(freeSet(kept), riddle);
    }

    public int likeness(int team, int other) throws IndexOutOfBoundsException {
        requireTeam(team);
        requireTeam(other);
        return kept.likenesses[pair(team, other)];
    }

    public boolean areLinked(int team, int other) throws IndexOutOfBoundsException {
        requireTeam(team);
        requireTeam(other);
        return judge.links(team, other, kept.likenesses[pair(team, other)]);
    }

    public boolean isCheated(int team, int riddle) throws IndexOutOfBoundsException {
        requireTeam(team);
        requireRiddle(riddle);
        return has(cheatedSet(kept, team), riddle);
    }

    public boolean isVoid(int team, int riddle) throws IndexOutOfBoundsException {
        requireTeam(team);
        requireRiddle(riddle);
        return has(voidSet(kept, team), riddle);
    }

    public int hanging(int riddle) throws IndexOutOfBoundsException {
        requireRiddle(riddle);
        return riddles.hangingOn(riddle);
    }

    // ---- scores, places, prizes

    public int score(int team) throws IndexOutOfBoundsException {
        requireTeam(team);
        return sumUp(kept, team, countingSet(kept, team));
    }

    public int scoreAnew(int team) throws IndexOutOfBoundsException {
        requireTeam(team);
        anew.wipe();
        replaySolutions();
        comparePairs(team);
        replaySales(team);
        return sumUp(anew, team, countingSet(anew, team));
    }

    public int place(int team) throws IndexOutOfBoundsException {
        requireTeam(team);
        rateTeams();
        return 1 + countBetter(team);
    }

    public int teamAt(int at) {
        rateTeams();
        for (int team = 0; team < teamCount; team++) {
            if (countBetter(team) + countAlike(team, team) == at) {
                return team;
            }
        }
        return NONE;
    }

    public int setPrize(int place, int coins) throws IllegalArgumentException {
        requireRange(place, 1, MAX_TEAMS);
        requireRange(coins, 0, MAX_COINS);
        int before = prizes[place - 1];
        prizes[place - 1] = coins;
        return before;
    }

    public int prize(int team) throws IndexOutOfBoundsException, IllegalStateException {
        requireTeam(team);
        if (!ended) {
            throw new IllegalStateException("it has not ended");
        }
        rateTeams();
        int sharers = countAlike(team, teamCount);
        return sharers > 0 ? sumPrizes(countBetter(team), sharers) / sharers : 0;
    }

    // ---- arguments

    private void requireTeam(int team) {
        if (team < 0 || team >= teamCount) {
            throw new IndexOutOfBoundsException("there is no such team");
        }
    }

    private void requireRiddle(int riddle) {
        if (riddle < 0 || riddle >= riddles.count) {
            throw new IndexOutOfBoundsException("there is no such riddle");
        }
    }

    private static void requireRange(int value, int least, int most) {
        if (value < least || value > most) {
            throw new IllegalArgumentException("an argument is out of its range");
        }
    }

    // ---- sets and cells of tables

    private static int bit(int number) {
        return 1 << number;
    }

    private static boolean has(int set, int number) {
        return (set >> number & 1) != 0;
    }

    private static int cell(int team, int riddle) {
        return team * MAX_RIDDLES + riddle;
    }

    private static int sale(int team, int riddle, int number) {
        return cell(team, riddle) * MAX_HINTS + number;
    }

    private static int pair(int team, int other) {
        return team * MAX_TEAMS + other;
    }

    // ---- solving and buying

    private int openMinute(Records records, int team, int riddle) {
        return records.lastSolveMinute(team, riddles.needs[riddle]);
    }

    private boolean isUnderWay(int team, int riddle) {
        return !ended && openMinute(kept, team, riddle) != NONE && !has(kept.solved[team], riddle);
    }

    private boolean hasHintsLeft(int team, int riddle) {
        return sales.bought[cell(team, riddle)] < MAX_HINTS;
    }

    private int nextPrice(int team, int riddle) {
        int waited = minute - openMinute(kept, team, riddle);
        int buyers = sales.countBuyers(riddle, sales.bought[cell(team, riddle)]);
        return Math.max(LEAST_PRICE, riddles.firstPrices[riddle] - waited / MINUTES_PER_REBATE - buyers);
    }

    private void noteSolved(Records records, int team, int riddle, int at) {
        int waited = at - openMinute(records, team, riddle);
        records.solve(team, riddle, at, waited < riddles.leastTimes[riddle]);
    }

    private void noteWrong(int team, int riddle, int word) {
        int givers = answers.giversOf(riddle, word);
        if (has(givers, team)) {
            return;
        }
        for (int other = 0; other < teamCount; other++) {
            if (has(givers, other)) {
                kept.noteCommon(team, other, riddle);
            }
        }
    }

    // ---- what is left of the solved riddles

    private int freeSet(Records records) {
        int free = 0;
        for (int team = 0; team < teamCount; team++) {
            free |= records.tooSoon[team] & ~judge.cleared[team];
        }
        return free;
    }

    private int cheatedSet(Records records, int team) {
        int cheated = 0;
        for (int other = 0; other < teamCount; other++) {
            if (judge.links(team, other, records.likenesses[pair(team, other)])) {
                cheated |= records.commons[pair(team, other)];
            }
        }
        return cheated;
    }

    /** A solved riddle hangs on solved ones alone, so all that is void is reached over solved ones. */
    private int voidSet(Records records, int team) {
        return riddles.spread(cheatedSet(records, team) & records.solved[team]) & records.solved[team];
    }

    private int countingSet(Records records, int team) {
        return records.solved[team] & ~voidSet(records, team) & ~freeSet(records);
    }

    private int sumUp(Records records, int team, int counting) {
        int free = freeSet(records);
        int sum = 0;
        for (int riddle = 0; riddle < riddles.count; riddle++) {
            if (has(counting, riddle)) {
                sum += riddles.points[riddle];
            }
            if (!has(free, riddle)) {
                sum -= records.paid[cell(team, riddle)];
            }
        }
        return sum;
    }

    // ---- the score anew

    /** Of all teams, because one that solved a riddle too soon makes it free for the others too. */
    private void replaySolutions() {
        for (int at = 0; at < answers.count; at++) {
            if (isRight(at)) {
                noteSolved(anew, answers.teams[at], answers.riddles[at], answers.minutes[at]);
            }
        }
    }

    private void comparePairs(int team) {
        for (int own = 0; own < answers.count; own++) {
            if (answers.teams[own] == team && !isRight(own) && !answers.isRepeated(own)) {
                compareWithOthers(own);
            }
        }
    }

    private void compareWithOthers(int own) {
        int team = answers.teams[own];
        for (int at = 0; at < answers.count; at++) {
            if (answers.teams[at] != team && answers.areSame(own, at) && !answers.isRepeated(at)) {
                anew.noteCommon(team, answers.teams[at], answers.riddles[at]);
            }
        }
    }

    private void replaySales(int team) {
        for (int riddle = 0; riddle < riddles.count; riddle++) {
            for (int number = 0; number < MAX_HINTS; number++) {
                anew.pay(team, riddle, sales.prices[sale(team, riddle, number)]);
            }
        }
    }

    private boolean isRight(int at) {
        return answers.words[at] == riddles.keys[answers.riddles[at]];
    }

    // ---- the order of teams

    private void rateTeams() {
        for (int team = 0; team < teamCount; team++) {
            int counting = countingSet(kept, team);
            scores[team] = sumUp(kept, team, counting);
            lastMinutes[team] = kept.lastSolveMinute(team, counting);
        }
    }

    private int countBetter(int team) {
        int better = 0;
        for (int other = 0; other < teamCount; other++) {
            boolean ahead = scores[other] > scores[team];
            boolean sooner = scores[other] == scores[team] && lastMinutes[other] < lastMinutes[team];
            if (ahead || sooner) {
                better++;
            }
        }
        return better;
    }

    /** How many of the teams with numbers below the limit have the place of this team. */
    private int countAlike(int team, int limit) {
        int alike = 0;
        for (int other = 0; other < limit; other++) {
            if (scores[other] == scores[team] && lastMinutes[other] == lastMinutes[team]) {
                alike++;
            }
        }
        return alike;
    }

    private int sumPrizes(int from, int length) {
        int sum = 0;
        for (int at = from; at < from + length && at < MAX_TEAMS; at++) {
            sum += prizes[at];
        }
        return sum;
    }

    /** The riddles, a column for each of their properties. */
    private static final class Riddles {
        private final int[] points = new int[MAX_RIDDLES];
        private final int[] keys = new int[MAX_RIDDLES];
        private final int[] leastTimes = new int[MAX_RIDDLES];
        private final int[] firstPrices = new int[MAX_RIDDLES];
        private final int[] needs = new int[MAX_RIDDLES];
        /** The riddles to which an answer was given or for which a hint was sold: their needs are fixed. */
        private int touched;
        private int count;

        private int append(int worth, int key, int least, int firstPrice) {
            points[count] = worth;
            keys[count] = key;
            leastTimes[count] = least;
            firstPrices[count] = firstPrice;
            return count++;
        }

        private int hangingOn(int riddle) {
            return spread(bit(riddle)) & ~bit(riddle);
        }

        /** The set and all that hangs on it; one round is enough, as needed riddles have lower numbers. */
        private int spread(int set) {
            int reached = set;
            for (int riddle = 0; riddle < count; riddle++) {
                if ((needs[riddle] & reached) != 0) {
                    reached |= bit(riddle);
                }
            }
            return reached;
        }
    }

    /** All answers in the order in which they were given. */
    private static final class Answers {
        private final int[] teams = new int[MAX_ANSWERS];
        private final int[] riddles = new int[MAX_ANSWERS];
        private final int[] words = new int[MAX_ANSWERS];
        private final int[] minutes = new int[MAX_ANSWERS];
        private int count;

        private void append(int team, int riddle, int word, int minute) {
            teams[count] = team;
            riddles[count] = riddle;
            words[count] = word;
            minutes[count] = minute;
            count++;
        }

        private int giversOf(int riddle, int word) {
            int givers = 0;
            for (int at = 0; at < count; at++) {
                if (riddles[at] == riddle && words[at] == word) {
                    givers |= bit(teams[at]);
                }
            }
            return givers;
        }

        private boolean areSame(int one, int two) {
            return riddles[one] == riddles[two] && words[one] == words[two];
        }

        /** Whether its team had given the same answer before. */
        private boolean isRepeated(int answer) {
            for (int at = 0; at < answer; at++) {
                if (teams[at] == teams[answer] && areSame(at, answer)) {
                    return true;
                }
            }
            return false;
        }
    }

    /** All hints that were sold: for each team and riddle how many, and the price of each; 0 if it is not sold. */
    private static final class Sales {
        private final int[] bought = new int[MAX_TEAMS * MAX_RIDDLES];
        private final int[] prices = new int[MAX_TEAMS * MAX_RIDDLES * MAX_HINTS];

        private void append(int team, int riddle, int coins) {
            int number = bought[cell(team, riddle)];
            prices[sale(team, riddle, number)] = coins;
            bought[cell(team, riddle)] = number + 1;
        }

        /** How many teams have bought the hint of this number, counted from 0. */
        private int countBuyers(int riddle, int number) {
            int buyers = 0;
            for (int team = 0; team < MAX_TEAMS; team++) {
                if (bought[cell(team, riddle)] > number) {
                    buyers++;
                }
            }
            return buyers;
        }
    }

    /** What the judge has said: it alone can't be found from answers and sales. */
    private static final class Judge {
        private final int[] cleared = new int[MAX_TEAMS];
        private final int[] pardoned = new int[MAX_TEAMS];
        private int bound = FIRST_BOUND;

        private boolean switchPardon(int team, int other) {
            pardoned[team] ^= bit(other);
            pardoned[other] ^= bit(team);
            return has(pardoned[team], other);
        }

        private boolean links(int team, int other, int likenessOfBoth) {
            return team != other && likenessOfBoth >= bound && !has(pardoned[team], other);
        }
    }

    /** What teams have solved, paid and in common: one of these is kept as it goes on, one is found anew. */
    private static final class Records {
        private final int[] solved = new int[MAX_TEAMS];
        private final int[] tooSoon = new int[MAX_TEAMS];
        private final int[] solveMinutes = new int[MAX_TEAMS * MAX_RIDDLES];
        private final int[] paid = new int[MAX_TEAMS * MAX_RIDDLES];
        private final int[] likenesses = new int[MAX_TEAMS * MAX_TEAMS];
        /** For two teams the riddles to which they have a wrong answer in common. */
        private final int[] commons = new int[MAX_TEAMS * MAX_TEAMS];

        private void wipe() {
            Arrays.fill(solved, 0);
            Arrays.fill(tooSoon, 0);
            Arrays.fill(solveMinutes, 0);
            Arrays.fill(paid, 0);
            Arrays.fill(likenesses, 0);
            Arrays.fill(commons, 0);
        }

        private void solve(int team, int riddle, int minute, boolean soon) {
            solved[team] |= bit(riddle);
            solveMinutes[cell(team, riddle)] = minute;
            if (soon) {
                tooSoon[team] |= bit(riddle);
            }
        }

        private void pay(int team, int riddle, int coins) {
            paid[cell(team, riddle)] += coins;
        }

        private void noteCommon(int team, int other, int riddle) {
            likenesses[pair(team, other)]++;
            likenesses[pair(other, team)]++;
            commons[pair(team, other)] |= bit(riddle);
            commons[pair(other, team)] |= bit(riddle);
        }

        /** The minute in which the team solved the last riddle of the set, 0 for none; NONE if some are unsolved. */
        private int lastSolveMinute(int team, int set) {
            if ((set & ~solved[team]) != 0) {
                return NONE;
            }
            int last = 0;
            for (int riddle = 0; riddle < MAX_RIDDLES; riddle++) {
                if (has(set, riddle)) {
                    last = Math.max(last, solveMinutes[cell(team, riddle)]);
                }
            }
            return last;
        }
    }
}
