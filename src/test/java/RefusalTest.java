import java.util.function.IntUnaryOperator;

/** Refused calls: BAD, NO, FULL, of several the first, and that nothing changes then. */
public final class RefusalTest extends Scene {
    public static void main(String[] args) {
        RefusalTest t = new RefusalTest();
        t.badNumbersOfANewObject();
        t.badNumbersOfOneBegun();
        t.badNumbersOfOneDone();
        t.badAheadOfNo();
        t.refusedAsThingsStand();
        Due.finish("RefusalTest");
    }

    // ---- BAD: a number is none that is told, there is no such thing. ... nothing changes then.

    /** One number of a call: what lies beside its least and its greatest, and far off, is BAD. */
    private static void bad(String number, int least, int greatest, IntUnaryOperator call) {
        for (int wrong : new int[] {least - 1, greatest + 1, LEAST, GREATEST}) {
            Due.is(number + " is " + wrong, call.applyAsInt(wrong), BAD);
        }
    }

    /** Each number of each call; f is a false seat, if there is one. */
    private void badNumbers(int n, int f) {
        int sent = x.count(2);
        String before = look(n);
        bad("seats, n", 4, 7, v -> x.seats(v));
        bad("falseSeat, seat", 0, n - 1, v -> x.falseSeat(v));
        bad("hold, seat", 0, n - 1, v -> x.hold(v, 1));
        bad("hold, value", 1, 99, v -> x.hold(0, v));
        bad("say, seat", 0, n - 1, v -> x.say(v, PROPOSAL, 0, 0, 0, NO_VR));
        bad("say, kind", 0, 2, v -> x.say(f, v, 0, 0, 0, NO_VR));
        bad("say, height", 0, 5, v -> x.say(f, PREVOTE, v, 0, 0, NO_VR));
        bad("say, round", 0, 9, v -> x.say(f, PREVOTE, 0, v, 0, NO_VR));
        bad("say, value of a proposal", 0, 99, v -> x.say(f, PROPOSAL, 0, 0, v, NO_VR));
        bad("say, value of a prevote", NIL, 99, v -> x.say(f, PREVOTE, 0, 0, v, NO_VR));
        bad("say, value of a precommit", NIL, 99, v -> x.say(f, PRECOMMIT, 0, 0, v, NO_VR));
        bad("say, vr of a proposal", NO_VR, 9, v -> x.say(f, PROPOSAL, 0, 0, 0, v));
        bad("come, letter", 0, sent - 1, v -> x.come(v, 0));
        bad("come, seat", 0, n - 1, v -> x.come(0, v));
        bad("end, seat", 0, n - 1, v -> x.end(v, 0));
        bad("end, timer", 0, 2, v -> x.end(0, v));
        bad("fair, k", 1, 30, v -> x.fair(v));
        badNumbersOfQuestions(n, sent);
        alike("nothing changes", look(n), before);
    }

    private void badNumbersOfQuestions(int n, int sent) {
        bad("seat, seat", 0, n - 1, v -> x.seat(v, 0));
        bad("seat, what", 0, 9, v -> x.seat(0, v));
        bad("decided, seat", 0, n - 1, v -> x.decided(v, 0, 0));
        bad("decided, height", 0, 5, v -> x.decided(0, v, 0));
        bad("decided, what", 0, 2, v -> x.decided(0, 0, v));
        bad("letter, letter", 0, sent - 1, v -> x.letter(v, 0));
        bad("letter, what", 0, 6, v -> x.letter(0, v));
        bad("votes, seat", 0, n - 1, v -> x.votes(v, PREVOTE, 0, 0, 0));
        bad("votes, kind", 1, 2, v -> x.votes(0, v, 0, 0, 0));
        bad("votes, height", 0, 5, v -> x.votes(0, PREVOTE, v, 0, 0));
        bad("votes, round", 0, 9, v -> x.votes(0, PREVOTE, 0, v, 0));
        bad("votes, value", WHATEVER, 99, v -> x.votes(0, PREVOTE, 0, 0, v));
        bad("shown, seat", 0, n - 1, v -> x.shown(v, 0));
        bad("shown, t", 0, n - 1, v -> x.shown(0, v));
        bad("count, what", 0, 9, v -> x.count(v));
    }

    private void badNumbersOfANewObject() {
        x = new LockedChain();
        badNumbers(4, 0);
    }

    private void badNumbersOfOneBegun() {
        for (int n = 4; n <= 7; n++) {
            lay(n, 0, 1, 2);
            x.begin();
            x.say(n - 1, PROPOSAL, 0, 1, 5, 0);
            x.come(0, 1);
            badNumbers(n, n - 1);
        }
    }

    private void badNumbersOfOneDone() {
        for (int n = 4; n <= 7; n++) {
            x = new LockedChain();
            x.seats(n);
            x.begin();
            x.fair(30);
            Due.is("done", x.count(4), 6);
            badNumbers(n, 0);
        }
    }

    /** "Of several the first": BAD ahead of NO, NO ahead of FULL. */
    private void badAheadOfNo() {
        x = new LockedChain();
        Due.is("say: not begun, kind", x.say(0, 3, 0, 0, 0, NO_VR), BAD);
        Due.is("say: not begun, vr", x.say(0, PROPOSAL, 0, 0, 0, 10), BAD);
        Due.is("fair: not begun, k", x.fair(31), BAD);
        Due.is("end: not set, timer", x.end(0, 3), BAD);
        lay(4, 0, 1, 2);
        x.begin();
        Due.is("falseSeat: begun, seat", x.falseSeat(4), BAD);
        Due.is("come: a false seat, letter", x.come(2, 3), BAD);
        Due.is("come: came already, seat", x.come(0, 4), BAD);
        Due.is("say: not false, value", x.say(0, PROPOSAL, 0, 0, NIL, NO_VR), BAD);
        fillTo(3, 400);
        Due.is("say: 400, round", x.say(3, PREVOTE, 0, 10, 0, 0), BAD);
        Due.is("say: 400, not false", x.say(0, PREVOTE, 0, 0, 0, 0), NO);
        Due.is("say: 400", x.say(3, PREVOTE, 0, 0, 0, 0), FULL);
    }

    /** "NO: not as things stand ... nothing changes then." */
    private void refusedAsThingsStand() {
        x = new LockedChain();
        x.falseSeat(3);
        String before = look(4);
        Due.is("it is false", x.falseSeat(3), NO);
        Due.is("not begun, a false seat", x.say(3, PROPOSAL, 0, 0, 0, NO_VR), NO);
        Due.is("not begun, another", x.say(0, PROPOSAL, 0, 0, 0, NO_VR), NO);
        Due.is("not begun, fair", x.fair(1), NO);
        Due.is("not begun, end", x.end(1, 0), NO);
        alike("nothing changes ahead of begin", look(4), before);
        x.begin();
        x.come(0, 1);
        before = look(4);
        Due.is("begun", x.begin(), NO);
        Due.is("begun, falseSeat", x.falseSeat(2), NO);
        Due.is("not false", x.say(2, PREVOTE, 0, 0, 0, 0), NO);
        Due.is("its own", x.come(0, 0), NO);
        Due.is("came already", x.come(0, 1), NO);
        Due.is("a false seat", x.come(0, 3), NO);
        Due.is("not set", x.end(0, 0), NO);
        Due.is("a false seat's timer", x.end(3, 0), NO);
        alike("nothing changes behind begin", look(4), before);
    }
}
