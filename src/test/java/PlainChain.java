import java.util.ArrayList;
import java.util.HashMap;
import java.util.HashSet;
import java.util.List;
import java.util.Map;
import java.util.Set;
import java.util.TreeSet;
import java.util.function.Predicate;

/**
 * The document once more, written as its words stand and without a thought of speed,
 * so that LockedChain can be compared with it over many runs.
 */
final class PlainChain {
    private static final int BAD = -1, NO = -2, FULL = -3, NONE = -4;

    private record Letter(int number, int seat, int kind, int height, int round, int value, int vr) { }

    private record Moment(int height, int round) { }

    private record Decision(int value, int round, int link) { }

    private static final class Seat {
        boolean isFalse, stale;
        int height, round, step;
        Integer lockedValue, lockedRound, validValue, validRound;
        final Map<Integer, Moment> timers = new HashMap<>();
        final TreeSet<Integer> holds = new TreeSet<>();
        final List<Decision> decisions = new ArrayList<>();
        final TreeSet<Integer> inbox = new TreeSet<>();
        final Set<Integer> doneInRound = new HashSet<>();
    }

    private final List<Seat> seats = new ArrayList<>();
    private final List<Letter> letters = new ArrayList<>();
    private boolean begun;
    private int times;

    PlainChain() {
        lay(4);
    }

    private void lay(int n) {
        seats.clear();
        letters.clear();
        begun = false;
        for (int i = 0; i < n; i++) {
            seats.add(new Seat());
        }
    }

    private int many() {
        return 2 * seats.size() / 3 + 1;
    }

    private int some() {
        return (seats.size() - 1) / 3 + 1;
    }

    private int proposer(int height, int round) {
        return (height + round) % seats.size();
    }

    private boolean noSeat(int seat) {
        return seat < 0 || seat >= seats.size();
    }

    private static boolean outside(int number, int least, int greatest) {
        return number < least || number > greatest;
    }

    // ---- what a seat looks at

    private List<Letter> seen(int seat, Predicate<Letter> which) {
        Seat s = seats.get(seat);
        List<Letter> all = new ArrayList<>();
        for (int number : s.inbox) {
            Letter l = letters.get(number);
            if (l.height == s.height && which.test(l)) {
                all.add(l);
            }
        }
        return all;
    }

    private List<Letter> proposals(int seat, Predicate<Letter> which) {
        return seen(seat, l -> l.kind == 0 && l.seat == proposer(l.height, l.round) && which.test(l));
    }

    private int unlike(List<Letter> some) {
        Set<Integer> senders = new HashSet<>();
        for (Letter l : some) {
            senders.add(l.seat);
        }
        return senders.size();
    }

    private boolean manyFor(int seat, int kind, int round, int value) {
        return unlike(seen(seat, l -> l.kind == kind && l.round == round && l.value == value)) >= many();
    }

    private boolean manyAtAll(int seat, int kind, int round) {
        return unlike(seen(seat, l -> l.kind == kind && l.round == round)) >= many();
    }

    private boolean right(int seat, int value) {
        return value == 0 || seats.get(seat).decisions.stream().noneMatch(d -> d.value == value);
    }

    // ---- what a seat does

    private void send(int seat, int kind, int height, int round, int value, int vr, boolean toItself) {
        if (letters.size() == 400) {
            return;
        }
        letters.add(new Letter(letters.size(), seat, kind, height, round, value, vr));
        if (toItself) {
            seats.get(seat).inbox.add(letters.size() - 1);
        }
    }

    private void vote(int seat, int kind, int value) {
        Seat s = seats.get(seat);
        send(seat, kind, s.height, s.round, value, -1, true);
        s.step = kind;
    }

    private void start(int seat, int round) {
        Seat s = seats.get(seat);
        if (round > 9) {
            s.stale = true;
            return;
        }
        s.round = round;
        s.step = 0;
        s.doneInRound.clear();
        if (proposer(s.height, round) != seat) {
            s.timers.put(0, new Moment(s.height, round));
        } else if (s.validValue != null) {
            send(seat, 0, s.height, round, s.validValue, s.validRound, true);
        } else {
            int value = s.holds.stream().filter(v -> right(seat, v)).findFirst().orElse(0);
            send(seat, 0, s.height, round, value, -1, true);
        }
    }

    private void rules(int seat) {
        boolean go = true;
        while (go && seats.get(seat).height < 6) {
            go = false;
            for (int rule = 1; rule <= 8 && !go; rule++) {
                go = fits(seat, rule);
            }
        }
    }

    private boolean fits(int seat, int rule) {
        switch (rule) {
            case 1: return decide(seat);
            case 2: return jump(seat);
            case 3: return prevoteFresh(seat);
            case 4: return prevoteAgain(seat);
            case 5: return lock(seat);
            case 6: return nilPrecommit(seat);
            case 7: return firstTime(seat, 7, 1) && setTimer(seat, 7, 1);
            default: return firstTime(seat, 8, 2) && setTimer(seat, 8, 2);
        }
    }

    private boolean decide(int seat) {
        Seat s = seats.get(seat);
        Letter best = null;
        for (Letter l : proposals(seat, l -> right(seat, l.value))) {
            if (manyFor(seat, 2, l.round, l.value) && (best == null || l.round < best.round)) {
                best = l;
            }
        }
        if (best == null) {
            return false;
        }
        long before = s.decisions.isEmpty() ? 7 : s.decisions.get(s.decisions.size() - 1).link;
        int link = (int) ((before * 1000003L + best.value + 1) % 2147483648L);
        s.decisions.add(new Decision(best.value, best.round, link));
        s.height++;
        s.lockedValue = s.lockedRound = s.validValue = s.validRound = null;
        s.timers.clear();
        s.stale = false;
        s.round = 0;
        s.step = 0;
        if (s.height < 6) {
            start(seat, 0);
        }
        return true;
    }

    private boolean jump(int seat) {
        int to = -1;
        for (int r = seats.get(seat).round + 1; r <= 9; r++) {
            int round = r;
            if (unlike(seen(seat, l -> l.round == round)) >= some()) {
                to = r;
            }
        }
        if (to >= 0) {
            start(seat, to);
        }
        return to >= 0;
    }

    private boolean prevoteFresh(int seat) {
        Seat s = seats.get(seat);
        List<Letter> fit = proposals(seat, l -> l.round == s.round && l.vr == -1);
        if (s.step != 0 || fit.isEmpty()) {
            return false;
        }
        int v = fit.get(0).value;
        boolean yes = right(seat, v) && (s.lockedValue == null || s.lockedValue == v);
        vote(seat, 1, yes ? v : -1);
        return true;
    }

    private boolean prevoteAgain(int seat) {
        Seat s = seats.get(seat);
        List<Letter> fit = proposals(seat, l -> l.round == s.round
            && l.vr >= 0 && l.vr < s.round && manyFor(seat, 1, l.vr, l.value));
        if (s.step != 0 || fit.isEmpty()) {
            return false;
        }
        Letter p = fit.get(0);
        boolean free = s.lockedValue == null || s.lockedRound <= p.vr || s.lockedValue == p.value;
        vote(seat, 1, right(seat, p.value) && free ? p.value : -1);
        return true;
    }

    private boolean lock(int seat) {
        Seat s = seats.get(seat);
        if (s.step == 0 || s.doneInRound.contains(5)) {
            return false;
        }
        List<Letter> fit = proposals(seat, l -> l.round == s.round
            && right(seat, l.value) && manyFor(seat, 1, s.round, l.value));
        if (fit.isEmpty()) {
            return false;
        }
        s.doneInRound.add(5);
        int v = fit.get(0).value;
        if (s.step == 1) {
            s.lockedValue = v;
            s.lockedRound = s.round;
            vote(seat, 2, v);
        }
        s.validValue = v;
        s.validRound = s.round;
        return true;
    }

    private boolean nilPrecommit(int seat) {
        Seat s = seats.get(seat);
        if (s.step != 1 || !manyFor(seat, 1, s.round, -1)) {
            return false;
        }
        vote(seat, 2, -1);
        return true;
    }

    private boolean firstTime(int seat, int rule, int kind) {
        Seat s = seats.get(seat);
        boolean inStep = rule == 8 || s.step == 1;
        return inStep && !s.doneInRound.contains(rule) && manyAtAll(seat, kind, s.round);
    }

    private boolean setTimer(int seat, int rule, int timer) {
        Seat s = seats.get(seat);
        s.doneInRound.add(rule);
        s.timers.put(timer, new Moment(s.height, s.round));
        return true;
    }

    private void arrive(int letter, int seat) {
        seats.get(seat).inbox.add(letter);
        rules(seat);
    }

    private void timeOut(int seat, int timer) {
        Seat s = seats.get(seat);
        Moment of = s.timers.remove(timer);
        if (of.equals(new Moment(s.height, s.round))) {
            if (timer == 0 && s.step == 0) {
                vote(seat, 1, -1);
            }
            if (timer == 1 && s.step == 1) {
                vote(seat, 2, -1);
            }
            if (timer == 2) {
                start(seat, s.round + 1);
            }
        }
        rules(seat);
    }

    /** Whether a letter has still to come to a seat: for choosing calls, not a call itself. */
    boolean isAwaited(int letter, int seat) {
        return !seats.get(seat).isFalse && !seats.get(seat).inbox.contains(letter);
    }

    // ---- the face

    int seats(int n) {
        if (outside(n, 4, 7)) {
            return BAD;
        }
        if (times == 20) {
            return FULL;
        }
        times++;
        lay(n);
        return n;
    }

    int falseSeat(int seat) {
        if (noSeat(seat)) {
            return BAD;
        }
        if (begun || seats.get(seat).isFalse) {
            return NO;
        }
        seats.get(seat).isFalse = true;
        return count(1);
    }

    int hold(int seat, int value) {
        if (noSeat(seat) || outside(value, 1, 99)) {
            return BAD;
        }
        return seats.get(seat).holds.add(value) ? 1 : 0;
    }

    int begin() {
        if (begun) {
            return NO;
        }
        begun = true;
        for (int i = 0; i < seats.size(); i++) {
            if (!seats.get(i).isFalse) {
                start(i, 0);
                rules(i);
            }
        }
        return letters.size();
    }

    int say(int seat, int kind, int height, int round, int value, int vr) {
        if (noSeat(seat) || outside(kind, 0, 2) || outside(height, 0, 5) || outside(round, 0, 9)) {
            return BAD;
        }
        if (outside(value, kind == 0 ? 0 : -1, 99) || kind == 0 && outside(vr, -1, 9)) {
            return BAD;
        }
        if (!begun || !seats.get(seat).isFalse) {
            return NO;
        }
        if (letters.size() == 400) {
            return FULL;
        }
        send(seat, kind, height, round, value, kind == 0 ? vr : -1, false);
        return letters.size() - 1;
    }

    int come(int letter, int seat) {
        if (outside(letter, 0, letters.size() - 1) || noSeat(seat)) {
            return BAD;
        }
        if (seats.get(seat).isFalse || seats.get(seat).inbox.contains(letter)) {
            return NO;
        }
        arrive(letter, seat);
        return letters.size();
    }

    int end(int seat, int timer) {
        if (noSeat(seat) || outside(timer, 0, 2)) {
            return BAD;
        }
        if (!seats.get(seat).timers.containsKey(timer)) {
            return NO;
        }
        timeOut(seat, timer);
        return letters.size();
    }

    int fair(int k) {
        if (outside(k, 1, 30)) {
            return BAD;
        }
        if (!begun) {
            return NO;
        }
        int done = 0;
        while (done < k && fairTurn()) {
            done++;
        }
        return done;
    }

    private boolean fairTurn() {
        boolean any = false;
        for (int l = 0; l < letters.size(); l++) {
            for (int s = 0; s < seats.size(); s++) {
                if (!seats.get(s).isFalse && !seats.get(s).inbox.contains(l)) {
                    arrive(l, s);
                    any = true;
                }
            }
        }
        if (any) {
            return true;
        }
        for (int s = 0; s < seats.size(); s++) {
            for (int timer = 0; timer < 3; timer++) {
                if (seats.get(s).timers.containsKey(timer)) {
                    timeOut(s, timer);
                    any = true;
                }
            }
        }
        return any;
    }

    int seat(int seat, int what) {
        if (noSeat(seat) || outside(what, 0, 9)) {
            return BAD;
        }
        Seat s = seats.get(seat);
        int bits = 0;
        for (int timer : s.timers.keySet()) {
            bits += 1 << timer;
        }
        int state = s.isFalse ? 1 : s.height == 6 ? 2 : s.stale ? 3 : 0;
        Integer[] all = {s.height, s.round, s.step, s.lockedValue, s.lockedRound,
            s.validValue, s.validRound, bits, state, s.holds.size()};
        return all[what] == null ? NONE : all[what];
    }

    int decided(int seat, int height, int what) {
        if (noSeat(seat) || outside(height, 0, 5) || outside(what, 0, 2)) {
            return BAD;
        }
        if (height >= seats.get(seat).decisions.size()) {
            return NONE;
        }
        Decision d = seats.get(seat).decisions.get(height);
        return what == 0 ? d.value : what == 1 ? d.round : d.link;
    }

    int letter(int letter, int what) {
        if (outside(letter, 0, letters.size() - 1) || outside(what, 0, 6)) {
            return BAD;
        }
        Letter l = letters.get(letter);
        int came = (int) seats.stream().filter(s -> s.inbox.contains(letter)).count();
        return new int[] {l.seat, l.kind, l.height, l.round, l.value, l.vr, came}[what];
    }

    int votes(int seat, int kind, int height, int round, int value) {
        if (noSeat(seat) || outside(kind, 1, 2) || outside(height, 0, 5) || outside(round, 0, 9)
            || outside(value, -2, 99)) {
            return BAD;
        }
        List<Letter> so = new ArrayList<>();
        for (int number : seats.get(seat).inbox) {
            Letter l = letters.get(number);
            if (l.kind == kind && l.height == height && l.round == round && (value == -2 || l.value == value)) {
                so.add(l);
            }
        }
        return unlike(so);
    }

    int shown(int seat, int t) {
        if (noSeat(seat) || noSeat(t)) {
            return BAD;
        }
        for (int a : seats.get(seat).inbox) {
            for (int b : seats.get(seat).inbox) {
                Letter one = letters.get(a);
                Letter two = letters.get(b);
                if (one.seat == t && two.seat == t && one.kind == two.kind && one.height == two.height
                    && one.round == two.round && (one.value != two.value || one.vr != two.vr)) {
                    return 1;
                }
            }
        }
        return 0;
    }

    int count(int what) {
        List<Seat> honest = seats.stream().filter(s -> !s.isFalse).toList();
        switch (what) {
            case 0: return seats.size();
            case 1: return seats.size() - honest.size();
            case 2: return letters.size();
            case 3: return honest.stream().mapToInt(s -> letters.size() - s.inbox.size()).sum();
            case 4: return honest.stream().mapToInt(s -> s.height).min().orElse(0);
            case 5: return honest.stream().mapToInt(s -> s.height).max().orElse(0);
            case 6: return begun ? 1 : 0;
            case 7: return many();
            case 8: return some();
            case 9: return splitHeights(honest);
            default: return BAD;
        }
    }

    private int splitHeights(List<Seat> honest) {
        int split = 0;
        for (int h = 0; h < 6; h++) {
            Set<Integer> values = new HashSet<>();
            for (Seat s : honest) {
                if (h < s.decisions.size()) {
                    values.add(s.decisions.get(h).value);
                }
            }
            split += values.size() > 1 ? 1 : 0;
        }
        return split;
    }
}
