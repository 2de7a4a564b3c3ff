/** Each promise of the document: ordinary inputs, the edges that it names, and wrong inputs. */
public final class PromiseTest {
    private static final int BAD = -1, NO = -2, FULL = -3, NONE = -4;
    private static final int LEAST = Integer.MIN_VALUE, GREATEST = Integer.MAX_VALUE;

    public static void main(String[] args) {
        newObject();
        seats();
        falseSeat();
        hold();
        begin();
        say();
        come();
        end();
        fair();
        fairTurns();
        seat();
        decided();
        letter();
        votes();
        shown();
        count();
        Due.finish("PromiseTest");
    }

    private static LockedChain begun(int n, int... falses) {
        LockedChain x = new LockedChain();
        Due.is("seats", x.seats(n), n);
        for (int seat : falses) {
            x.falseSeat(seat);
        }
        x.begin();
        return x;
    }

    private static void newObject() {
        LockedChain x = new LockedChain();
        Due.is("1: seats", x.count(0), 4);
        Due.is("1: false", x.count(1), 0);
        Due.is("1: letters", x.count(2), 0);
        Due.is("1: begun", x.count(6), 0);
        int[] first = {0, 0, 0, NONE, NONE, NONE, NONE, 0, 0, 0};
        for (int seat = 0; seat < 4; seat++) {
            for (int what = 0; what < first.length; what++) {
                Due.is("1: seat " + seat + " " + what, x.seat(seat, what), first[what]);
            }
        }
        Due.is("1: no fifth seat", x.seat(4, 0), BAD);
        Due.is("1: BAD", LockedChain.BAD, BAD);
        Due.is("1: NO", LockedChain.NO, NO);
        Due.is("1: FULL", LockedChain.FULL, FULL);
        Due.is("1: NONE", LockedChain.NONE, NONE);
    }

    private static void seats() {
        LockedChain x = new LockedChain();
        int[] wrong = {LEAST, -1, 0, 3, 8, GREATEST};
        for (int n : wrong) {
            Due.is("2: seats " + n, x.seats(n), BAD);
        }
        Due.is("2: nothing changes", x.count(0), 4);
        x.falseSeat(1);
        x.hold(0, 9);
        x.begin();
        x.fair(30);
        Due.is("2: seats 7", x.seats(7), 7);
        Due.is("2: none false", x.count(1), 0);
        Due.is("2: not begun", x.count(6), 0);
        Due.is("2: no letters", x.count(2), 0);
        Due.is("2: letter 0 is none", x.letter(0, 0), BAD);
        Due.is("2: holds nothing", x.seat(0, 9), 0);
        Due.is("2: height", x.seat(0, 0), 0);
        Due.is("2: decided", x.decided(0, 0, 0), NONE);
        Due.is("2: seat 6", x.seat(6, 8), 0);
        for (int i = 2; i <= 20; i++) {
            Due.is("2: time " + i, x.seats(4 + i % 4), 4 + i % 4);
        }
        x.falseSeat(0);
        Due.is("2: time 21", x.seats(5), FULL);
        Due.is("2: BAD ahead of FULL", x.seats(8), BAD);
        Due.is("2: as before", x.count(0), 4);
        Due.is("2: as before, false", x.count(1), 1);
    }

    private static void falseSeat() {
        LockedChain x = new LockedChain();
        Due.is("3: -1", x.falseSeat(-1), BAD);
        Due.is("3: 4", x.falseSeat(4), BAD);
        Due.is("3: least", x.falseSeat(LEAST), BAD);
        Due.is("3: greatest", x.falseSeat(GREATEST), BAD);
        Due.is("3: seat 2", x.falseSeat(2), 1);
        Due.is("3: seat 2 again", x.falseSeat(2), NO);
        Due.is("3: seat 0", x.falseSeat(0), 2);
        Due.is("3: seat 1", x.falseSeat(1), 3);
        Due.is("3: seat 3", x.falseSeat(3), 4);
        Due.is("3: letters of none", x.begin(), 0);
        Due.is("3: nothing to do", x.fair(30), 0);
        Due.is("3: least height of none", x.count(4), 0);
        Due.is("3: greatest height of none", x.count(5), 0);
        LockedChain y = begun(4);
        Due.is("3: begun", y.falseSeat(0), NO);
        Due.is("3: begun, no such seat", y.falseSeat(4), BAD);
    }

    private static void hold() {
        LockedChain x = new LockedChain();
        x.falseSeat(3);
        Due.is("4: value 0", x.hold(0, 0), BAD);
        Due.is("4: value 100", x.hold(0, 100), BAD);
        Due.is("4: value -1", x.hold(0, -1), BAD);
        Due.is("4: value least", x.hold(0, LEAST), BAD);
        Due.is("4: value greatest", x.hold(0, GREATEST), BAD);
        Due.is("4: seat 4", x.hold(4, 1), BAD);
        Due.is("4: seat -1", x.hold(-1, 1), BAD);
        Due.is("4: 99", x.hold(0, 99), 1);
        Due.is("4: 1", x.hold(0, 1), 1);
        Due.is("4: 99 again", x.hold(0, 99), 0);
        Due.is("4: of another seat", x.hold(1, 99), 1);
        Due.is("4: of a false one", x.hold(3, 7), 1);
        Due.is("4: how many", x.seat(0, 9), 2);
        x.begin();
        Due.is("4: begun", x.hold(0, 2), 1);
        Due.is("4: begun, again", x.hold(0, 2), 0);
        Due.is("4: the least was proposed", x.letter(0, 4), 1);
    }

    private static void begin() {
        LockedChain x = new LockedChain();
        Due.is("5: a proposal and a prevote", x.begin(), 2);
        Due.is("5: again", x.begin(), NO);
        Due.is("5: seat 0 prevoted", x.seat(0, 2), 1);
        Due.is("5: seat 0 set no timer", x.seat(0, 7), 0);
        Due.is("5: seat 1 waits", x.seat(1, 2), 0);
        Due.is("5: seat 3 set timer 0", x.seat(3, 7), 1);
        Due.is("5: EMPTY, holding none", x.letter(0, 4), 0);
        LockedChain y = new LockedChain();
        y.falseSeat(0);
        Due.is("5: a false proposer", y.begin(), 0);
        Due.is("5: a false one sets none", y.seat(0, 7), 0);
    }

    private static void say() {
        LockedChain x = new LockedChain();
        x.falseSeat(1);
        Due.is("6: not begun", x.say(1, 0, 0, 0, 0, -1), NO);
        Due.is("6: BAD ahead of NO", x.say(1, 3, 0, 0, 0, -1), BAD);
        x.begin();
        int[][] wrong = {
            {-1, 0, 0, 0, 0, -1}, {4, 0, 0, 0, 0, -1}, {1, -1, 0, 0, 0, -1}, {1, 3, 0, 0, 0, -1},
            {1, 0, -1, 0, 0, -1}, {1, 0, 6, 0, 0, -1}, {1, 0, 0, -1, 0, -1}, {1, 0, 0, 10, 0, -1},
            {1, 0, 0, 0, -1, -1}, {1, 0, 0, 0, 100, -1}, {1, 0, 0, 0, 0, -2}, {1, 0, 0, 0, 0, 10},
            {1, 1, 0, 0, -2, -1}, {1, 2, 0, 0, 100, -1}, {1, GREATEST, 0, 0, 0, 0}, {1, 0, LEAST, 0, 0, 0},
            {1, 1, GREATEST, 0, 0, 0}, {1, 1, 0, LEAST, 0, 0}, {1, 1, 0, 0, GREATEST, 0}, {1, 0, 0, 0, 0, LEAST},
        };
        for (int[] w : wrong) {
            Due.is("6: " + java.util.Arrays.toString(w), x.say(w[0], w[1], w[2], w[3], w[4], w[5]), BAD);
        }
        Due.is("6: an honest seat", x.say(0, 0, 0, 0, 0, -1), NO);
        Due.is("6: of several the first", x.say(0, 0, 0, 0, 0, 10), BAD);
        Due.is("6: nothing was sent", x.count(2), 2);
        Due.is("6: a proposal", x.say(1, 0, 5, 9, 99, 9), 2);
        Due.is("6: a prevote, VR not looked at", x.say(1, 1, 0, 0, -1, GREATEST), 3);
        Due.is("6: a precommit, VR not looked at", x.say(1, 2, 0, 0, 99, LEAST), 4);
        Due.is("6: VR of a vote is none", x.letter(3, 5), -1);
        Due.is("6: it came to nobody", x.letter(2, 6), 0);
        for (int i = 5; i < 400; i++) {
            Due.is("6: letter " + i, x.say(1, 1, 0, 0, 0, 0), i);
        }
        Due.is("6: 400", x.say(1, 1, 0, 0, 0, 0), FULL);
        Due.is("6: NO ahead of FULL", x.say(2, 1, 0, 0, 0, 0), NO);
        Due.is("6: BAD ahead of FULL", x.say(1, 1, 0, 10, 0, 0), BAD);
        Due.is("6: still 400", x.count(2), 400);
        Due.is("6: what would be sent is lost", x.end(2, 0), 400);
        Due.is("6: but the step is taken", x.seat(2, 2), 1);
        Due.is("6: and no vote of its own came", x.votes(2, 1, 0, 0, -2), 0);
    }

    private static void come() {
        LockedChain x = new LockedChain();
        x.falseSeat(3);
        Due.is("7: not begun", x.come(0, 0), BAD);
        x.begin();
        Due.is("7: letter 2", x.come(2, 0), BAD);
        Due.is("7: letter -1", x.come(-1, 0), BAD);
        Due.is("7: letter greatest", x.come(GREATEST, 0), BAD);
        Due.is("7: seat 4", x.come(0, 4), BAD);
        Due.is("7: seat -1", x.come(0, -1), BAD);
        Due.is("7: BAD ahead of NO", x.come(2, 3), BAD);
        Due.is("7: a false seat", x.come(0, 3), NO);
        Due.is("7: its own", x.come(0, 0), NO);
        Due.is("7: the proposal, answered by a prevote", x.come(0, 1), 3);
        Due.is("7: again", x.come(0, 1), NO);
        Due.is("7: a prevote, answered by nothing", x.come(1, 1), 3);
        Due.is("7: it came to two", x.letter(1, 6), 2);
    }

    private static void end() {
        LockedChain x = new LockedChain();
        x.falseSeat(3);
        Due.is("8: not begun", x.end(1, 0), NO);
        x.begin();
        Due.is("8: seat 4", x.end(4, 0), BAD);
        Due.is("8: seat -1", x.end(-1, 0), BAD);
        Due.is("8: timer 3", x.end(1, 3), BAD);
        Due.is("8: timer -1", x.end(1, -1), BAD);
        Due.is("8: timer least", x.end(1, LEAST), BAD);
        Due.is("8: a proposer has none", x.end(0, 0), NO);
        Due.is("8: a false one has none", x.end(3, 0), NO);
        Due.is("8: timer 1 is not set", x.end(1, 1), NO);
        Due.is("8: PREVOTE NIL", x.end(1, 0), 3);
        Due.is("8: its kind", x.letter(2, 1), 1);
        Due.is("8: its value", x.letter(2, 4), -1);
        Due.is("8: it is not set any more", x.end(1, 0), NO);
        Due.is("8: its step", x.seat(1, 2), 1);
    }

    private static void fair() {
        LockedChain x = new LockedChain();
        Due.is("9: not begun", x.fair(1), NO);
        Due.is("9: 0", x.fair(0), BAD);
        Due.is("9: 31", x.fair(31), BAD);
        Due.is("9: -1", x.fair(-1), BAD);
        Due.is("9: greatest", x.fair(GREATEST), BAD);
        x.hold(0, 5);
        x.hold(1, 5);
        x.hold(1, 6);
        x.begin();
        Due.is("9: one turn brings all to the end", x.fair(1), 1);
        Due.is("9: all are done", x.count(4), 6);
        Due.is("9: nothing to come", x.count(3), 0);
        Due.is("9: nothing is left", x.fair(30), 0);
        Due.is("9: 5 was decided", x.decided(3, 0, 0), 5);
        Due.is("9: 5 is not right any more", x.decided(3, 1, 0), 6);
        Due.is("9: seat 2 holds none", x.decided(3, 2, 0), 0);
        Due.is("9: EMPTY again", x.decided(3, 3, 0), 0);
    }

    private static void fairTurns() {
        LockedChain x = new LockedChain();
        x.falseSeat(0);
        x.begin();
        Due.is("9: no letters, the timers end", x.fair(1), 1);
        Due.is("9: three prevotes NIL", x.count(2), 3);
        Due.is("9: to whom they have still to come", x.count(3), 6);
        Due.is("9: no timer is left", x.seat(1, 7) + x.seat(2, 7) + x.seat(3, 7), 0);
        Due.is("9: the letters, and those sent meanwhile", x.fair(1), 1);
        Due.is("9: three precommits NIL", x.count(2), 6);
        Due.is("9: all came", x.count(3), 0);
        Due.is("9: timer 2", x.seat(1, 7), 4);
        Due.is("9: the timers end, by seats", x.fair(1), 1);
        Due.is("9: round 1", x.seat(3, 1), 1);
        Due.is("9: seat 1 proposed and prevoted", x.count(2), 8);
        Due.is("9: seat 1 first", x.letter(6, 0), 1);
    }

    private static void seat() {
        LockedChain x = new LockedChain();
        x.falseSeat(3);
        x.hold(3, 8);
        Due.is("10: seat 4", x.seat(4, 0), BAD);
        Due.is("10: seat -1", x.seat(-1, 0), BAD);
        Due.is("10: what 10", x.seat(0, 10), BAD);
        Due.is("10: what -1", x.seat(0, -1), BAD);
        Due.is("10: what greatest", x.seat(0, GREATEST), BAD);
        x.hold(0, 4);
        x.begin();
        x.come(0, 1);
        x.come(0, 2);
        x.come(2, 0);
        x.come(3, 0);
        int[] zero = {0, 0, 2, 4, 0, 4, 0, 0, 0, 1};
        int[] three = {0, 0, 0, NONE, NONE, NONE, NONE, 0, 1, 1};
        for (int what = 0; what < 10; what++) {
            Due.is("10: locked seat 0, " + what, x.seat(0, what), zero[what]);
            Due.is("10: false seat 3, " + what, x.seat(3, what), three[what]);
        }
        x.fair(30);
        int[] done = {6, 0, 0, NONE, NONE, NONE, NONE, 0, 2, 1};
        for (int what = 0; what < 10; what++) {
            Due.is("10: done seat 0, " + what, x.seat(0, what), done[what]);
        }
    }

    private static void decided() {
        LockedChain x = new LockedChain();
        x.hold(0, 3);
        x.begin();
        Due.is("11: none yet", x.decided(0, 0, 0), NONE);
        Due.is("11: no round yet", x.decided(0, 5, 1), NONE);
        Due.is("11: no link yet", x.decided(0, 0, 2), NONE);
        Due.is("11: seat 4", x.decided(4, 0, 0), BAD);
        Due.is("11: seat -1", x.decided(-1, 0, 0), BAD);
        Due.is("11: height 6", x.decided(0, 6, 0), BAD);
        Due.is("11: height -1", x.decided(0, -1, 0), BAD);
        Due.is("11: what 3", x.decided(0, 0, 3), BAD);
        Due.is("11: what -1", x.decided(0, 0, -1), BAD);
        x.fair(1);
        Due.is("11: value", x.decided(2, 0, 0), 3);
        Due.is("11: round", x.decided(2, 0, 1), 0);
        long link = 7L * 1000003L + 3 + 1;
        Due.is("11: link 0", x.decided(2, 0, 2), (int) link);
        for (int height = 1; height < 6; height++) {
            link = (link * 1000003L + 0 + 1) % 2147483648L;
            Due.is("11: link " + height, x.decided(2, height, 2), (int) link);
        }
    }

    private static void letter() {
        LockedChain x = new LockedChain();
        x.falseSeat(2);
        x.hold(0, 3);
        Due.is("12: none yet", x.letter(0, 0), BAD);
        x.begin();
        x.say(2, 0, 4, 7, 99, 6);
        x.say(2, 2, 1, 2, -1, 6);
        x.come(2, 0);
        x.come(2, 1);
        x.come(2, 3);
        int[][] want = {{0, 0, 0, 0, 3, -1, 1}, {0, 1, 0, 0, 3, -1, 1}, {2, 0, 4, 7, 99, 6, 3}, {2, 2, 1, 2, -1, -1, 0}};
        for (int l = 0; l < want.length; l++) {
            for (int what = 0; what < 7; what++) {
                Due.is("12: letter " + l + ", " + what, x.letter(l, what), want[l][what]);
            }
        }
        Due.is("12: letter 4", x.letter(4, 0), BAD);
        Due.is("12: letter -1", x.letter(-1, 0), BAD);
        Due.is("12: letter greatest", x.letter(GREATEST, 0), BAD);
        Due.is("12: what 7", x.letter(0, 7), BAD);
        Due.is("12: what -1", x.letter(0, -1), BAD);
    }

    private static void votes() {
        LockedChain x = begun(5, 3, 4);
        x.say(3, 1, 2, 3, 7, 0);
        x.say(3, 1, 2, 3, 8, 0);
        x.say(4, 1, 2, 3, 7, 0);
        x.say(4, 2, 2, 3, -1, 0);
        for (int l = 2; l < 6; l++) {
            x.come(l, 1);
        }
        Due.is("13: for 7", x.votes(1, 1, 2, 3, 7), 2);
        Due.is("13: for 8", x.votes(1, 1, 2, 3, 8), 1);
        Due.is("13: for NIL", x.votes(1, 1, 2, 3, -1), 0);
        Due.is("13: whatever, by unlike seats", x.votes(1, 1, 2, 3, -2), 2);
        Due.is("13: precommits for NIL", x.votes(1, 2, 2, 3, -1), 1);
        Due.is("13: precommits whatever", x.votes(1, 2, 2, 3, -2), 1);
        Due.is("13: another height", x.votes(1, 1, 1, 3, -2), 0);
        Due.is("13: another round", x.votes(1, 1, 2, 2, -2), 0);
        Due.is("13: a seat to which none came", x.votes(2, 1, 2, 3, -2), 0);
        Due.is("13: a false seat", x.votes(3, 1, 2, 3, -2), 0);
        Due.is("13: edges", x.votes(4, 2, 5, 9, 99), 0);
        int[][] wrong = {{-1, 1, 0, 0, 0}, {5, 1, 0, 0, 0}, {0, 0, 0, 0, 0}, {0, 3, 0, 0, 0}, {0, 1, -1, 0, 0},
            {0, 1, 6, 0, 0}, {0, 1, 0, -1, 0}, {0, 1, 0, 10, 0}, {0, 1, 0, 0, -3}, {0, 1, 0, 0, 100},
            {0, GREATEST, 0, 0, 0}, {0, 1, GREATEST, 0, 0}, {0, 1, 0, LEAST, 0}};
        for (int[] w : wrong) {
            Due.is("13: " + java.util.Arrays.toString(w), x.votes(w[0], w[1], w[2], w[3], w[4]), BAD);
        }
    }

    private static void shown() {
        LockedChain x = begun(4, 2, 3);
        x.say(3, 0, 1, 2, 7, -1);
        x.say(3, 0, 1, 2, 7, -1);
        x.say(3, 0, 1, 3, 8, -1);
        x.say(3, 1, 1, 2, 9, -1);
        x.say(2, 0, 1, 2, 6, -1);
        for (int l = 2; l < 7; l++) {
            x.come(l, 0);
        }
        Due.is("14: alike, or of unlike round, kind, seat", x.shown(0, 3), 0);
        int other = x.say(3, 0, 1, 2, 7, 0);
        Due.is("14: not yet come", x.shown(0, 3), 0);
        x.come(other, 0);
        Due.is("14: unlike in VR", x.shown(0, 3), 1);
        Due.is("14: not to another seat", x.shown(1, 3), 0);
        int yes = x.say(2, 2, 5, 9, 0, -1);
        int no = x.say(2, 2, 5, 9, -1, -1);
        x.come(no, 1);
        Due.is("14: one letter", x.shown(1, 2), 0);
        x.come(yes, 1);
        Due.is("14: unlike in VALUE", x.shown(1, 2), 1);
        Due.is("14: itself", x.shown(1, 1), 0);
        Due.is("14: false to itself", x.shown(2, 2), 0);
        Due.is("14: seat 4", x.shown(4, 0), BAD);
        Due.is("14: t 4", x.shown(0, 4), BAD);
        Due.is("14: seat -1", x.shown(-1, 0), BAD);
        Due.is("14: t -1", x.shown(0, -1), BAD);
    }

    private static void count() {
        LockedChain x = new LockedChain();
        int[] many = {3, 4, 5, 5};
        int[] some = {2, 2, 2, 3};
        for (int n = 4; n <= 7; n++) {
            x.seats(n);
            Due.is("15: seats " + n, x.count(0), n);
            Due.is("15: MANY of " + n, x.count(7), many[n - 4]);
            Due.is("15: SOME of " + n, x.count(8), some[n - 4]);
        }
        Due.is("15: -1", x.count(-1), BAD);
        Due.is("15: 10", x.count(10), BAD);
        Due.is("15: greatest", x.count(GREATEST), BAD);
        x.falseSeat(6);
        x.falseSeat(5);
        Due.is("15: not begun, least height", x.count(4), 0);
        Due.is("15: not begun", x.count(6), 0);
        x.begin();
        Due.is("15: begun", x.count(6), 1);
        Due.is("15: false", x.count(1), 2);
        Due.is("15: letters", x.count(2), 2);
        Due.is("15: still to come, to honest seats", x.count(3), 8);
        x.say(6, 1, 0, 0, 0, 0);
        Due.is("15: a false seat's, to all honest", x.count(3), 13);
        splitCounts();
    }

    /** Two false seats of four let the two others decide unlike values. */
    private static void splitCounts() {
        LockedChain x = begun(4, 0, 3);
        for (int seat = 1; seat <= 2; seat++) {
            x.come(x.say(0, 0, 0, 0, seat, -1), seat);
            x.come(x.say(0, 1, 0, 0, seat, -1), seat);
            x.come(x.say(3, 1, 0, 0, seat, -1), seat);
            x.come(x.say(0, 2, 0, 0, seat, -1), seat);
            Due.is("15: least height so far", x.count(4), 0);
            Due.is("15: greatest height so far", x.count(5), seat - 1);
            Due.is("15: none split so far", x.count(9), 0);
            x.come(x.say(3, 2, 0, 0, seat, -1), seat);
        }
        Due.is("15: seat 1", x.decided(1, 0, 0), 1);
        Due.is("15: seat 2", x.decided(2, 0, 0), 2);
        Due.is("15: one split height", x.count(9), 1);
        Due.is("15: least height", x.count(4), 1);
        Due.is("15: greatest height", x.count(5), 1);
        x.seats(4);
        Due.is("15: none split anew", x.count(9), 0);
    }
}
