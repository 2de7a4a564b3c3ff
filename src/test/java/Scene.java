/** A chain on which seat 0 is watched, while false seats say to it what a test needs. */
abstract class Scene {
    static final int BAD = -1, NO = -2, FULL = -3, NONE = -4;
    static final int NIL = -1, NO_VR = -1, WHATEVER = -2;
    static final int PROPOSAL = 0, PREVOTE = 1, PRECOMMIT = 2;
    static final int LEAST = Integer.MIN_VALUE, GREATEST = Integer.MAX_VALUE;

    LockedChain x;

    final void lay(int n, int... honest) {
        x = new LockedChain();
        x.seats(n);
        for (int seat = 0; seat < n; seat++) {
            boolean isFalse = true;
            for (int h : honest) {
                isFalse = isFalse && h != seat;
            }
            if (isFalse) {
                x.falseSeat(seat);
            }
        }
    }

    /** Seat 0 of four alone is honest; it has proposed and prevoted EMPTY. */
    final void layAlone() {
        lay(4, 0);
        Due.is("begin", x.begin(), 2);
    }

    /** A false seat's letter comes to seat 0. */
    final void tell(int from, int kind, int height, int round, int value, int vr) {
        x.come(x.say(from, kind, height, round, value, vr), 0);
    }

    final void tellVotes(int kind, int height, int round, int value, int... from) {
        for (int seat : from) {
            tell(seat, kind, height, round, value, NO_VR);
        }
    }

    final void jump(int height, int round) {
        tellVotes(PREVOTE, height, round, 98, 2, 3);
        Due.is("jump to round " + round, x.seat(0, 1), round);
    }

    final void dueSeat(String what, int... want) {
        for (int i = 0; i < want.length; i++) {
            Due.is(what + ", seat(0, " + i + ")", x.seat(0, i), want[i]);
        }
    }

    /** Of the last letter: kind, height, round, value, VR. */
    final void dueLast(String what, int... want) {
        int last = x.count(2) - 1;
        Due.is(what + ": by seat 0", x.letter(last, 0), 0);
        Due.is(what + ": came to itself alone", x.letter(last, 6), 1);
        for (int i = 0; i < want.length; i++) {
            Due.is(what + ": letter " + (i + 1), x.letter(last, i + 1), want[i]);
        }
    }

    /** A false seat says what nobody heeds; the count is asked once, for an object is used for 512 calls. */
    final void fillTo(int from, int letters) {
        for (int i = x.count(2); i < letters; i++) {
            x.say(from, PREVOTE, 5, 9, 99, 0);
        }
    }

    /** What an object tells of n seats and of its first letters: few calls, for it is used for 512. */
    final String look(int n) {
        StringBuilder all = new StringBuilder();
        for (int what = 0; what <= 9; what++) {
            all.append(x.count(what)).append(' ');
            for (int seat = 0; seat < n; seat++) {
                all.append(x.seat(seat, what)).append(what < 3 ? ":" + x.decided(seat, what + 2, what) + " " : " ");
            }
        }
        int sent = Math.min(4, x.count(2));
        for (int letter = 0; letter < sent; letter++) {
            for (int what = 0; what <= 6; what++) {
                all.append(x.letter(letter, what)).append(what < 6 ? ',' : ' ');
            }
        }
        return all.toString();
    }

    static void alike(String what, String got, String want) {
        Due.is(what + ": " + got + " for " + want, got.equals(want) ? 1 : 0, 1);
    }
}
