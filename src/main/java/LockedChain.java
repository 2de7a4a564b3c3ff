import java.util.Arrays;

/** A chain that seats decide height by height, as ../shared/DOC.md tells it. */
public final class LockedChain {
    public static final int BAD = -1, NO = -2, FULL = -3, NONE = -4;

    private static final int LEAST_SEATS = 4, MOST_SEATS = 7, MOST_SEATINGS = 20;
    private static final int HEIGHTS = 6, ROUNDS = 10, VALUES = 100, KINDS = 3, TIMERS = 3;
    private static final int MOST_LETTERS = 400, MOST_TURNS = 30;
    private static final int EMPTY = 0, NIL = -1, WHATEVER = -2, NO_VR = -1;
    /** Kinds of letters; the two latter are the numbers of the steps behind PROPOSE, too. */
    private static final int PROPOSAL = 0, PREVOTE = 1, PRECOMMIT = 2;
    private static final int PROPOSE = 0;
    private static final int PROPOSE_TIMER = 0, PREVOTE_TIMER = 1, PRECOMMIT_TIMER = 2;
    private static final int NOT_SET = -1;
    private static final long LINK_AHEAD = 7L, LINK_FACTOR = 1000003L, LINK_MODULUS = 2147483648L;
    /** Far above the rules that can fit one after another: each takes a seat on, and there are 60 rounds. */
    private static final int MOST_STEPS = 1000000;

    private final Council council;
    private final Post post;
    private final Rules rules;
    private final Seat[] table;
    private boolean begun;
    private int seatings;

    public LockedChain() {
        council = new Council();
        post = new Post();
        rules = new Rules(council, post);
        table = new Seat[MOST_SEATS];
        for (int i = 0; i < table.length; i++) {
            table[i] = new Seat(i);
        }
        begun = false;
        seatings = 0;
    }

    public int seats(int n) {
        if (n < LEAST_SEATS || n > MOST_SEATS) {
            return BAD;
        }
        if (seatings >= MOST_SEATINGS) {
            return FULL;
        }
        seatings++;
        begun = false;
        council.resize(n);
        post.clear();
        for (int i = 0; i < table.length; i++) {
            if (table[i] != null) {
                table[i].clear();
            }
        }
        return n;
    }

    public int falseSeat(int seat) {
        Seat s = seated(seat);
        if (s == null) {
            return BAD;
        }
        if (s.isFalse || begun) {
            return NO;
        }
        s.isFalse = true;
        return falseOnes();
    }

    public int hold(int seat, int value) {
        Seat s = seated(seat);
        if (s == null || value <= EMPTY || value >= VALUES) {
            return BAD;
        }
        return s.take(value) ? 1 : 0;
    }

    public int begin() {
        if (begun) {
            return NO;
        }
        begun = true;
        for (int i = 0; i < council.size(); i++) {
            Seat s = honest(i);
            if (s != null) {
                rules.start(s, 0);
                rules.go(s);
            }
        }
        return post.sent();
    }

    public int say(int seat, int kind, int height, int round, int value, int vr) {
        Seat s = seated(seat);
        if (s == null || slot(kind, height, round) < 0 || !isSayable(kind, value, vr)) {
            return BAD;
        }
        if (!s.isFalse || !begun) {
            return NO;
        }
        if (post.isFull()) {
            return FULL;
        }
        int number = post.sent();
        post.send(seat, kind, height, round, value, kind == PROPOSAL ? vr : NO_VR, 0);
        return number;
    }

    public int come(int letter, int seat) {
        Letter l = post.at(letter);
        Seat s = seated(seat);
        if (l == null || s == null) {
            return BAD;
        }
        if (s.isFalse || l.cameTo(seat)) {
            return NO;
        }
        l.reach(seat);
        rules.go(s);
        return post.sent();
    }

    public int end(int seat, int timer) {
        Seat s = seated(seat);
        if (s == null || timer < 0 || timer >= TIMERS) {
            return BAD;
        }
        if (!s.isSet(timer)) {
            return NO;
        }
        rules.ring(s, timer);
        rules.go(s);
        return post.sent();
    }

    public int fair(int k) {
        if (k < 1 || k > MOST_TURNS) {
            return BAD;
        }
        if (!begun) {
            return NO;
        }
        for (int turns = 0; turns < k; turns++) {
            if (!bringAllLetters() && !ringAllTimers()) {
                return turns;
            }
        }
        return k;
    }

    public int seat(int seat, int what) {
        Seat s = seated(seat);
        if (s == null) {
            return BAD;
        }
        switch (what) {
            case 0: return s.height;
            case 1: return s.round;
            case 2: return s.step;
            case 3: return s.locked.value;
            case 4: return s.locked.round;
            case 5: return s.valid.value;
            case 6: return s.valid.round;
            case 7: return s.timerBits();
            case 8: return s.standing();
            case 9: return s.heldValues;
            default: return BAD;
        }
    }

    public int decided(int seat, int height, int what) {
        Seat s = seated(seat);
        if (s == null || height < 0 || height >= HEIGHTS) {
            return BAD;
        }
        switch (what) {
            case 0: return s.chain.valueAt(height);
            case 1: return s.chain.roundAt(height);
            case 2: return s.chain.linkAt(height);
            default: return BAD;
        }
    }

    public int letter(int letter, int what) {
        Letter l = post.at(letter);
        if (l == null) {
            return BAD;
        }
        switch (what) {
            case 0: return l.sender;
            case 1: return l.kind;
            case 2: return l.height;
            case 3: return l.round;
            case 4: return l.value;
            case 5: return l.vr;
            case 6: return Integer.bitCount(l.came);
            default: return BAD;
        }
    }

    public int votes(int seat, int kind, int height, int round, int value) {
        if (seated(seat) == null || kind == PROPOSAL || slot(kind, height, round) < 0) {
            return BAD;
        }
        if (value < WHATEVER || value >= VALUES) {
            return BAD;
        }
        return Post.voters(post.first(kind, height, round), seat, value);
    }

    public int shown(int seat, int t) {
        if (seated(seat) == null || seated(t) == null) {
            return BAD;
        }
        return post.shows(seat, t) ? 1 : 0;
    }

    public int count(int what) {
        switch (what) {
            case 0: return council.size();
            case 1: return falseOnes();
            case 2: return post.sent();
            case 3: return stillToCome();
            case 4: return leastHeight();
            case 5: return greatestHeight();
            case 6: return begun ? 1 : 0;
            case 7: return council.many();
            case 8: return council.some();
            case 9: return splitHeights();
            default: return BAD;
        }
    }

    /** The place of a kind, height and round among all of them, -1 if there is no such one. */
    private static int slot(int kind, int height, int round) {
        if (kind < 0 || kind >= KINDS || height < 0 || height >= HEIGHTS || round < 0 || round >= ROUNDS) {
            return -1;
        }
        return (kind * HEIGHTS + height) * ROUNDS + round;
    }

    private static boolean isSayable(int kind, int value, int vr) {
        if (kind == PROPOSAL) {
            return value >= EMPTY && value < VALUES && vr >= NO_VR && vr < ROUNDS;
        }
        return value >= NIL && value < VALUES;
    }

    /** The seat of that number, null if there is none. */
    private Seat seated(int number) {
        return number >= 0 && number < council.size() && number < table.length ? table[number] : null;
    }

    /** The seat of that number, null if there is none or it is false. */
    private Seat honest(int number) {
        Seat s = seated(number);
        return s == null || s.isFalse ? null : s;
    }

    private boolean bringAllLetters() {
        boolean any = false;
        // Asked anew each time: what is sent meanwhile comes in the same turn.
        for (int i = 0; i < post.sent() && i < MOST_LETTERS; i++) {
            Letter l = post.at(i);
            for (int j = 0; j < council.size(); j++) {
                Seat s = honest(j);
                if (l != null && s != null && !l.cameTo(j)) {
                    l.reach(j);
                    rules.go(s);
                    any = true;
                }
            }
        }
        return any;
    }

    private boolean ringAllTimers() {
        boolean any = false;
        for (int i = 0; i < council.size(); i++) {
            Seat s = honest(i);
            for (int timer = 0; timer < TIMERS; timer++) {
                if (s != null && s.isSet(timer)) {
                    rules.ring(s, timer);
                    rules.go(s);
                    any = true;
                }
            }
        }
        return any;
    }

    private int falseOnes() {
        int ones = 0;
        for (int i = 0; i < council.size(); i++) {
            if (honest(i) == null) {
                ones++;
            }
        }
        return ones;
    }

    private int stillToCome() {
        int open = 0;
        for (int i = 0; i < post.sent(); i++) {
            Letter l = post.at(i);
            for (int j = 0; j < council.size(); j++) {
                if (l != null && honest(j) != null && !l.cameTo(j)) {
                    open++;
                }
            }
        }
        return open;
    }

    /** 0 if all seats are false: none of them ever leaves height 0. */
    private int leastHeight() {
        int least = greatestHeight();
        for (int i = 0; i < council.size(); i++) {
            Seat s = honest(i);
            if (s != null) {
                least = Math.min(least, s.height);
            }
        }
        return least;
    }

    private int greatestHeight() {
        int greatest = 0;
        for (int i = 0; i < council.size(); i++) {
            Seat s = honest(i);
            if (s != null) {
                greatest = Math.max(greatest, s.height);
            }
        }
        return greatest;
    }

    private int splitHeights() {
        int split = 0;
        for (int height = 0; height < HEIGHTS; height++) {
            if (isSplit(height)) {
                split++;
            }
        }
        return split;
    }

    private boolean isSplit(int height) {
        int agreed = NONE;
        for (int i = 0; i < council.size(); i++) {
            Seat s = honest(i);
            int value = s == null ? NONE : s.chain.valueAt(height);
            if (value != NONE && agreed != NONE && value != agreed) {
                return true;
            }
            if (value != NONE) {
                agreed = value;
            }
        }
        return false;
    }

    /** How many seats there are, and what follows from that alone. */
    private static final class Council {
        private int size = LEAST_SEATS;

        void resize(int n) {
            size = n;
        }

        int size() {
            return size;
        }

        int many() {
            return 2 * size / 3 + 1;
        }

        int some() {
            return (size - 1) / 3 + 1;
        }

        int proposer(int height, int round) {
            return size < 1 ? 0 : (height + round) % size;
        }
    }

    private static final class Letter {
        int sender;
        int kind;
        int height;
        int round;
        int value;
        int vr;
        /** A bit for each seat to which it came. */
        int came;
        /** The next one of the same kind, height and round. */
        Letter next;

        void reach(int seat) {
            came |= 1 << seat;
        }

        boolean cameTo(int seat) {
            return (came >> seat & 1) == 1;
        }

        boolean isUnlike(Letter other) {
            return other != null && (value != other.value || vr != other.vr);
        }
    }

    /** All letters: by their numbers, and those of a kind, height and round as a chain in the same order. */
    private static final class Post {
        private final Letter[] letters = new Letter[MOST_LETTERS];
        private final Letter[] firsts = new Letter[KINDS * HEIGHTS * ROUNDS];
        private final Letter[] lasts = new Letter[KINDS * HEIGHTS * ROUNDS];
        private int sent = 0;

        void clear() {
            sent = 0;
            for (int i = 0; i < firsts.length; i++) {
                firsts[i] = null;
            }
            for (int i = 0; i < lasts.length; i++) {
                lasts[i] = null;
            }
        }

        int sent() {
            return sent;
        }

        boolean isFull() {
            return sent >= letters.length;
        }

        /** The letter of that number, null if there is none. */
        Letter at(int number) {
            return number >= 0 && number < sent && number < letters.length ? letters[number] : null;
        }

        /** The first letter of a kind, height and round, null if there is none. */
        Letter first(int kind, int height, int round) {
            int slot = slot(kind, height, round);
            return slot >= 0 && slot < firsts.length ? firsts[slot] : null;
        }

        /** Sends a letter that has come to the seats of the bits; when there are 400, it is lost. */
        void send(int sender, int kind, int height, int round, int value, int vr, int came) {
            int slot = slot(kind, height, round);
            if (slot < 0 || slot >= firsts.length || slot >= lasts.length || sent < 0 || sent >= letters.length) {
                return;
            }
            // Letters of earlier seatings are written anew, so that one object never makes more than 400.
            if (letters[sent] == null) {
                letters[sent] = new Letter();
            }
            Letter l = letters[sent];
            l.sender = sender;
            l.kind = kind;
            l.height = height;
            l.round = round;
            l.value = value;
            l.vr = vr;
            l.came = came;
            l.next = null;
            if (lasts[slot] == null) {
                firsts[slot] = l;
            } else {
                lasts[slot].next = l;
            }
            lasts[slot] = l;
            sent++;
        }

        /** How many unlike seats voted so, by those letters of a chain that came to a seat. */
        static int voters(Letter first, int seat, int value) {
            int voters = 0;
            for (Letter l = first; l != null; l = l.next) {
                if (l.cameTo(seat) && (value == WHATEVER || value == l.value)) {
                    voters |= 1 << l.sender;
                }
            }
            return Integer.bitCount(voters);
        }

        /** Whether two unlike letters of t, of one kind, height and round, came to a seat. */
        boolean shows(int seat, int t) {
            for (int slot = 0; slot < firsts.length; slot++) {
                Letter one = null;
                for (Letter l = firsts[slot]; l != null; l = l.next) {
                    if (l.sender == t && l.cameTo(seat)) {
                        if (l.isUnlike(one)) {
                            return true;
                        }
                        one = l;
                    }
                }
            }
            return false;
        }
    }

    /** A value and a round, or none: what a seat is locked on, or its valid one. */
    private static final class Mark {
        int value = NONE;
        int round = NONE;

        void clear() {
            value = NONE;
            round = NONE;
        }

        void put(int newValue, int newRound) {
            value = newValue;
            round = newRound;
        }

        boolean isNone() {
            return value == NONE;
        }
    }

    /** What one seat decided. */
    private static final class Chain {
        private final int[] values = new int[HEIGHTS];
        private final int[] rounds = new int[HEIGHTS];

        void clear() {
            Arrays.fill(values, NONE);
            Arrays.fill(rounds, NONE);
        }

        void add(int height, int value, int round) {
            if (height >= 0 && height < values.length && height < rounds.length) {
                values[height] = value;
                rounds[height] = round;
            }
        }

        int valueAt(int height) {
            return height >= 0 && height < values.length ? values[height] : NONE;
        }

        int roundAt(int height) {
            return height >= 0 && height < rounds.length ? rounds[height] : NONE;
        }

        int linkAt(int height) {
            if (valueAt(height) == NONE) {
                return NONE;
            }
            long link = LINK_AHEAD;
            for (int i = 0; i <= height && i < values.length; i++) {
                link = (link * LINK_FACTOR + values[i] + 1) % LINK_MODULUS;
            }
            return (int) link;
        }

        /** Whether a value may still be decided. */
        boolean isRight(int value) {
            if (value == EMPTY) {
                return true;
            }
            for (int i = 0; i < values.length; i++) {
                if (values[i] == value) {
                    return false;
                }
            }
            return true;
        }
    }

    private static final class Seat {
        final int number;
        boolean isFalse;
        int height;
        int round;
        int step;
        boolean isStale;
        /** What is done once in a round: rules 5, 7 and 8. */
        boolean didLock;
        boolean didTimePrevotes;
        boolean didTimePrecommits;
        int heldValues;
        final Mark locked = new Mark();
        final Mark valid = new Mark();
        final Chain chain = new Chain();
        private final boolean[] held = new boolean[VALUES];
        /** For each timer the moment that it is of, or NOT_SET. */
        private final int[] timers = new int[TIMERS];

        Seat(int itsNumber) {
            number = itsNumber;
            clear();
        }

        void clear() {
            isFalse = false;
            height = 0;
            heldValues = 0;
            for (int i = 0; i < held.length; i++) {
                held[i] = false;
            }
            chain.clear();
            clearHeight();
        }

        /** Of a new height: nothing of the old one stays. */
        private void clearHeight() {
            isStale = false;
            locked.clear();
            valid.clear();
            Arrays.fill(timers, NOT_SET);
            enter(0);
        }

        void enter(int newRound) {
            round = newRound;
            step = PROPOSE;
            didLock = false;
            didTimePrevotes = false;
            didTimePrecommits = false;
        }

        void decide(int value, int inRound) {
            chain.add(height, value, inRound);
            height++;
            clearHeight();
        }

        boolean isDone() {
            return height >= HEIGHTS;
        }

        /** True if it did not hold that value yet. */
        boolean take(int value) {
            if (value < 0 || value >= held.length || held[value]) {
                return false;
            }
            held[value] = true;
            heldValues++;
            return true;
        }

        int leastRightValue() {
            for (int value = EMPTY + 1; value < held.length; value++) {
                if (held[value] && chain.isRight(value)) {
                    return value;
                }
            }
            return EMPTY;
        }

        void set(int timer) {
            if (timer >= 0 && timer < timers.length) {
                timers[timer] = moment();
            }
        }

        boolean isSet(int timer) {
            return timer >= 0 && timer < timers.length && timers[timer] != NOT_SET;
        }

        /** Unsets a timer: true if it was of the height and round there are. */
        boolean unset(int timer) {
            if (!isSet(timer)) {
                return false;
            }
            boolean counts = timers[timer] == moment();
            timers[timer] = NOT_SET;
            return counts;
        }

        int timerBits() {
            int bits = 0;
            for (int i = 0; i < timers.length; i++) {
                if (isSet(i)) {
                    bits |= 1 << i;
                }
            }
            return bits;
        }

        int standing() {
            if (isFalse) {
                return 1;
            }
            if (isDone()) {
                return 2;
            }
            return isStale ? 3 : 0;
        }

        private int moment() {
            return height * ROUNDS + round;
        }
    }

    /** What a seat does when it starts, when a letter comes, when a timer ends. */
    private static final class Rules {
        private final Council council;
        private final Post post;

        Rules(Council itsCouncil, Post itsPost) {
            council = itsCouncil;
            post = itsPost;
        }

        /** A timer ends. */
        void ring(Seat s, int timer) {
            if (!s.unset(timer)) {
                return;
            }
            if (timer == PROPOSE_TIMER && s.step == PROPOSE) {
                vote(s, PREVOTE, NIL);
            } else if (timer == PREVOTE_TIMER && s.step == PREVOTE) {
                vote(s, PRECOMMIT, NIL);
            } else if (timer == PRECOMMIT_TIMER) {
                start(s, s.round + 1);
            }
        }

        void start(Seat s, int round) {
            if (round >= ROUNDS) {
                s.isStale = true;
                return;
            }
            s.enter(round);
            if (council.proposer(s.height, round) != s.number) {
                s.set(PROPOSE_TIMER);
            } else if (s.valid.isNone()) {
                send(s, PROPOSAL, s.leastRightValue(), NO_VR);
            } else {
                send(s, PROPOSAL, s.valid.value, s.valid.round);
            }
        }

        private void send(Seat s, int kind, int value, int vr) {
            post.send(s.number, kind, s.height, s.round, value, vr, 1 << s.number);
        }

        /** The step after a vote bears the number of its kind. */
        private void vote(Seat s, int kind, int value) {
            send(s, kind, value, NO_VR);
            s.step = kind;
        }

        /** The first rule that fits, then from the first again, until none fits. */
        void go(Seat s) {
            boolean fits = true;
            for (int i = 0; i < MOST_STEPS && fits && !s.isDone(); i++) {
                fits = decides(s) || catchesUp(s) || prevotesNew(s) || prevotesOld(s)
                    || locks(s) || givesUp(s) || timesPrevotes(s) || timesPrecommits(s);
            }
        }

        private boolean decides(Seat s) {
            for (int round = 0; round < ROUNDS; round++) {
                Letter l = supported(s, round, PRECOMMIT);
                if (l != null) {
                    s.decide(l.value, round);
                    if (!s.isDone()) {
                        start(s, 0);
                    }
                    return true;
                }
            }
            return false;
        }

        private boolean catchesUp(Seat s) {
            for (int round = ROUNDS - 1; round > s.round; round--) {
                if (Integer.bitCount(writers(s, round)) >= council.some()) {
                    start(s, round);
                    return true;
                }
            }
            return false;
        }

        /** The seats, as bits, of whom a letter of a round came: of whatever kind, and a proposal of whomever. */
        private int writers(Seat s, int round) {
            int writers = 0;
            for (int kind = 0; kind < KINDS; kind++) {
                for (Letter l = post.first(kind, s.height, round); l != null; l = l.next) {
                    if (l.cameTo(s.number)) {
                        writers |= 1 << l.sender;
                    }
                }
            }
            return writers;
        }

        private boolean prevotesNew(Seat s) {
            if (s.step != PROPOSE) {
                return false;
            }
            for (Letter l = post.first(PROPOSAL, s.height, s.round); l != null; l = l.next) {
                if (counts(s, l) && l.vr == NO_VR) {
                    boolean free = s.locked.isNone() || s.locked.value == l.value;
                    vote(s, PREVOTE, free && s.chain.isRight(l.value) ? l.value : NIL);
                    return true;
                }
            }
            return false;
        }

        private boolean prevotesOld(Seat s) {
            if (s.step != PROPOSE) {
                return false;
            }
            for (Letter l = post.first(PROPOSAL, s.height, s.round); l != null; l = l.next) {
                boolean isOld = l.vr != NO_VR && l.vr < s.round;
                if (isOld && counts(s, l) && hasMany(s, PREVOTE, l.vr, l.value)) {
                    boolean free = s.locked.isNone() || s.locked.round <= l.vr || s.locked.value == l.value;
                    vote(s, PREVOTE, free && s.chain.isRight(l.value) ? l.value : NIL);
                    return true;
                }
            }
            return false;
        }

        private boolean locks(Seat s) {
            Letter l = s.step == PROPOSE || s.didLock ? null : supported(s, s.round, PREVOTE);
            if (l == null) {
                return false;
            }
            s.didLock = true;
            if (s.step == PREVOTE) {
                s.locked.put(l.value, s.round);
                vote(s, PRECOMMIT, l.value);
            }
            s.valid.put(l.value, s.round);
            return true;
        }

        private boolean givesUp(Seat s) {
            if (s.step != PREVOTE || !hasMany(s, PREVOTE, s.round, NIL)) {
                return false;
            }
            vote(s, PRECOMMIT, NIL);
            return true;
        }

        private boolean timesPrevotes(Seat s) {
            if (s.step != PREVOTE || s.didTimePrevotes || !hasMany(s, PREVOTE, s.round, WHATEVER)) {
                return false;
            }
            s.didTimePrevotes = true;
            s.set(PREVOTE_TIMER);
            return true;
        }

        private boolean timesPrecommits(Seat s) {
            if (s.didTimePrecommits || !hasMany(s, PRECOMMIT, s.round, WHATEVER)) {
                return false;
            }
            s.didTimePrecommits = true;
            s.set(PRECOMMIT_TIMER);
            return true;
        }

        /** The first proposal of a round whose value is right and has many votes of a kind in that round. */
        private Letter supported(Seat s, int round, int kind) {
            for (Letter l = post.first(PROPOSAL, s.height, round); l != null; l = l.next) {
                if (counts(s, l) && s.chain.isRight(l.value) && hasMany(s, kind, round, l.value)) {
                    return l;
                }
            }
            return null;
        }

        private boolean hasMany(Seat s, int kind, int round, int value) {
            return Post.voters(post.first(kind, s.height, round), s.number, value) >= council.many();
        }

        /** Where a rule asks for a proposal, only one from the proposer of its round counts. */
        private boolean counts(Seat s, Letter proposal) {
            return proposal.cameTo(s.number)
                && proposal.sender == council.proposer(proposal.height, proposal.round);
        }
    }
}
