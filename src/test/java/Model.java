import java.util.ArrayList;
import java.util.Comparator;
import java.util.HashMap;
import java.util.HashSet;
import java.util.List;
import java.util.Map;
import java.util.NoSuchElementException;
import java.util.Set;

/** The document's terms word for word, found from lists of what happened at every call: slow, but easy to compare. */
final class Model {
    private record Given(int team, int riddle, int word, int minute) { }

    private record Sold(int team, int riddle, int coins) { }

    private record Riddle(int points, int key, int least, int price, Set<Integer> needs) { }

    private final List<Riddle> riddles = new ArrayList<>();
    private final List<Given> given = new ArrayList<>();
    private final List<Sold> sold = new ArrayList<>();
    private final Set<List<Integer>> cleared = new HashSet<>();
    private final Set<Set<Integer>> pardoned = new HashSet<>();
    private final Map<Integer, Integer> prizes = new HashMap<>();
    private int teams;
    private int minute;
    private int bound = 3;
    private boolean ended;

    int pass(int minutes) {
        range(minutes, 1, 500);
        state(minute + minutes <= 20000);
        minute += minutes;
        return minute;
    }

    int now() {
        return minute;
    }

    int addRiddle(int points, int key, int least, int price) {
        range(points, 1, 50);
        range(key, 0, 9999);
        range(least, 0, 100);
        range(price, 1, 40);
        state(riddles.size() < 16 && !ended);
        riddles.add(new Riddle(points, key, least, price, new HashSet<>()));
        return riddles.size() - 1;
    }

    int need(int riddle, int other) {
        riddle(riddle);
        riddle(other);
        range(other, 0, riddle - 1);
        state(given.stream().noneMatch(g -> g.riddle == riddle));
        state(sold.stream().noneMatch(s -> s.riddle == riddle));
        state(!ended && riddles.get(riddle).needs.add(other));
        return riddles.get(riddle).needs.size();
    }

    int addTeam() {
        state(teams < 8 && !ended);
        return teams++;
    }

    int end() {
        state(!ended);
        ended = true;
        int free = 0;
        for (int riddle = 0; riddle < riddles.size(); riddle++) {
            free += isFree(riddle) ? 1 : 0;
        }
        return free;
    }

    boolean answer(int team, int riddle, int word) {
        both(team, riddle);
        range(word, 0, 9999);
        state(openedAt(team, riddle) >= 0 && solvedAt(team, riddle) < 0 && !ended && given.size() < 200);
        given.add(new Given(team, riddle, word, minute));
        return word == riddles.get(riddle).key;
    }

    int hint(int team, int riddle) {
        both(team, riddle);
        state(openedAt(team, riddle) >= 0 && solvedAt(team, riddle) < 0 && !ended && hints(team, riddle) < 3);
        int coins = price(team, riddle);
        sold.add(new Sold(team, riddle, coins));
        return coins;
    }

    int price(int team, int riddle) {
        both(team, riddle);
        int number = hints(team, riddle) + 1;
        if (openedAt(team, riddle) < 0 || number > 3) {
            throw new NoSuchElementException();
        }
        int rebate = (minute - openedAt(team, riddle)) / 10;
        for (int other = 0; other < teams; other++) {
            rebate += hints(other, riddle) >= number ? 1 : 0;
        }
        return Math.max(1, riddles.get(riddle).price - rebate);
    }

    int openedAt(int team, int riddle) {
        both(team, riddle);
        int opened = 0;
        for (int needed : riddles.get(riddle).needs) {
            if (solvedAt(team, needed) < 0) {
                return -1;
            }
            opened = Math.max(opened, solvedAt(team, needed));
        }
        return opened;
    }

    int solvedAt(int team, int riddle) {
        both(team, riddle);
        for (Given g : given) {
            if (g.team == team && g.riddle == riddle && g.word == riddles.get(riddle).key) {
                return g.minute;
            }
        }
        return -1;
    }

    boolean clear(int team, int riddle) {
        both(team, riddle);
        state(tooSoon(team, riddle) && cleared.add(List.of(team, riddle)));
        return isFree(riddle);
    }

    boolean pardon(int team, int other) {
        team(team);
        team(other);
        argument(team != other);
        if (pardoned.remove(Set.of(team, other))) {
            return false;
        }
        return pardoned.add(Set.of(team, other));
    }

    int setBound(int next) {
        range(next, 1, 20);
        int before = bound;
        bound = next;
        return before;
    }

    boolean isFree(int riddle) {
        riddle(riddle);
        for (int team = 0; team < teams; team++) {
            if (tooSoon(team, riddle) && !cleared.contains(List.of(team, riddle))) {
                return true;
            }
        }
        return false;
    }

    int likeness(int team, int other) {
        team(team);
        team(other);
        return team == other ? 0 : common(team, other).size();
    }

    boolean areLinked(int team, int other) {
        team(team);
        team(other);
        return team != other && likeness(team, other) >= bound && !pardoned.contains(Set.of(team, other));
    }

    boolean isCheated(int team, int riddle) {
        both(team, riddle);
        for (int other = 0; other < teams; other++) {
            if (areLinked(team, other) && common(team, other).stream().anyMatch(c -> c.get(0) == riddle)) {
                return true;
            }
        }
        return false;
    }

    boolean isVoid(int team, int riddle) {
        both(team, riddle);
        return solvedAt(team, riddle) >= 0 && (isCheated(team, riddle)
            || riddles.get(riddle).needs.stream().anyMatch(needed -> isVoid(team, needed)));
    }

    int hanging(int riddle) {
        riddle(riddle);
        int set = 0;
        for (int other = 0; other < riddles.size(); other++) {
            if (riddles.get(other).needs.contains(riddle)) {
                set |= 1 << other | hanging(other);
            }
        }
        return set;
    }

    int score(int team) {
        team(team);
        int sum = 0;
        for (int riddle = 0; riddle < riddles.size(); riddle++) {
            sum += counts(team, riddle) ? riddles.get(riddle).points : 0;
        }
        for (Sold s : sold) {
            sum -= s.team == team && !isFree(s.riddle) ? s.coins : 0;
        }
        return sum;
    }

    int scoreAnew(int team) {
        return score(team);
    }

    int place(int team) {
        int score = score(team);
        int last = last(team);
        int place = 1;
        for (int other = 0; other < teams; other++) {
            int theirs = score(other);
            place += theirs > score || theirs == score && last(other) < last ? 1 : 0;
        }
        return place;
    }

    int teamAt(int at) {
        List<Integer> order = new ArrayList<>();
        for (int team = 0; team < teams; team++) {
            order.add(team);
        }
        order.sort(Comparator.<Integer>comparingInt(t -> -score(t)).thenComparingInt(this::last));
        return at >= 0 && at < teams ? order.get(at) : -1;
    }

    int setPrize(int place, int coins) {
        range(place, 1, 8);
        range(coins, 0, 1000);
        Integer before = prizes.put(place, coins);
        return before == null ? 0 : before;
    }

    int prize(int team) {
        team(team);
        state(ended);
        int place = place(team);
        int sharers = 0;
        int sum = 0;
        for (int other = 0; other < teams; other++) {
            if (place(other) == place) {
                sum += prizes.getOrDefault(place + sharers, 0);
                sharers++;
            }
        }
        return sum / sharers;
    }

    private int hints(int team, int riddle) {
        return (int) sold.stream().filter(s -> s.team == team && s.riddle == riddle).count();
    }

    private boolean tooSoon(int team, int riddle) {
        int solved = solvedAt(team, riddle);
        return solved >= 0 && solved - openedAt(team, riddle) < riddles.get(riddle).least;
    }

    private Set<List<Integer>> wrongOf(int team) {
        Set<List<Integer>> wrong = new HashSet<>();
        for (Given g : given) {
            if (g.team == team && g.word != riddles.get(g.riddle).key) {
                wrong.add(List.of(g.riddle, g.word));
            }
        }
        return wrong;
    }

    private Set<List<Integer>> common(int team, int other) {
        Set<List<Integer>> common = wrongOf(team);
        common.retainAll(wrongOf(other));
        return common;
    }

    private boolean counts(int team, int riddle) {
        return solvedAt(team, riddle) >= 0 && !isFree(riddle) && !isVoid(team, riddle);
    }

    private int last(int team) {
        int last = 0;
        for (int riddle = 0; riddle < riddles.size(); riddle++) {
            last = counts(team, riddle) ? Math.max(last, solvedAt(team, riddle)) : last;
        }
        return last;
    }

    private void both(int team, int riddle) {
        team(team);
        riddle(riddle);
    }

    private void team(int team) {
        if (team < 0 || team >= teams) {
            throw new IndexOutOfBoundsException();
        }
    }

    private void riddle(int riddle) {
        if (riddle < 0 || riddle >= riddles.size()) {
            throw new IndexOutOfBoundsException();
        }
    }

    private static void range(int value, int least, int most) {
        argument(value >= least && value <= most);
    }

    private static void argument(boolean fits) {
        if (!fits) {
            throw new IllegalArgumentException();
        }
    }

    private static void state(boolean fits) {
        if (!fits) {
            throw new IllegalStateException();
        }
    }
}
