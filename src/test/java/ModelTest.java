/** Many runs of calls on LockedChain and on PlainChain, which must answer alike. */
public final class ModelTest {
    private static final int RUNS = 1600;
    private static final int CALLS = 500;
    private static final int[] ODD = {Integer.MIN_VALUE, -5, -3, -2, -1, 0, 10, 31, 100, 400, Integer.MAX_VALUE};

    private long state;
    private LockedChain chain;
    private PlainChain plain;
    private String where;
    /** The moment about which false seats speak, so that their letters matter. */
    private int height;
    private int round;

    public static void main(String[] args) {
        ModelTest test = new ModelTest();
        for (int run = 0; run < RUNS && !Due.anyWrong(); run++) {
            test.run(run);
        }
        Due.finish("ModelTest");
    }

    /** A number from 0 to below, always the same ones. */
    private int pick(int below) {
        state = state * 6364136223846793005L + 1442695040888963407L;
        return (int) ((state >>> 33) % below);
    }

    private int odd(int usual) {
        return pick(60) == 0 ? ODD[pick(ODD.length)] : usual;
    }

    private void run(int run) {
        state = run;
        pick(2);
        chain = new LockedChain();
        plain = new PlainChain();
        int manner = pick(6);
        int laggard = pick(4);
        where = "run " + run + ", laying: ";
        int calls = lay(manner);
        for (; calls < CALLS && !Due.anyWrong(); calls++) {
            where = "run " + run + ", call " + calls + ": ";
            if (pick(manner == 2 ? 9 : 3) == 0) {
                look();
            } else if (manner == 1 && pick(4) > 0) {
                push();
                calls++;
            } else if (manner == 2 && pick(9) > 0) {
                say();
            } else if (manner >= 3 && pick(12) > 0) {
                comeButHoldBack(manner == 3 ? -1 : laggard);
            } else {
                act(manner);
            }
        }
    }

    private int lay(int manner) {
        int calls = 0;
        if (pick(4) > 0) {
            int n = 4 + pick(4);
            Due.is(where + "seats(" + n + ")", chain.seats(n), plain.seats(n));
            calls++;
        }
        int falses = pick(8) == 0 ? pick(8) : pick(plain.count(8) + 1);
        if (manner == 1) {
            falses = plain.count(7) - 1 - pick(2);
        }
        for (int i = 0; i < falses; i++) {
            int seat = odd(pick(plain.count(0)));
            Due.is(where + "falseSeat(" + seat + ")", chain.falseSeat(seat), plain.falseSeat(seat));
            calls++;
        }
        int holds = pick(12);
        for (int i = 0; i < holds; i++) {
            hold();
            calls++;
        }
        if (pick(10) > 0) {
            Due.is(where + "begin()", chain.begin(), plain.begin());
            calls++;
        }
        return calls;
    }

    private void hold() {
        int seat = odd(pick(plain.count(0)));
        int value = odd(1 + pick(6));
        Due.is(where + "hold(" + seat + ", " + value + ")", chain.hold(seat, value), plain.hold(seat, value));
    }

    private void act(int manner) {
        int what = pick(100);
        if (what < 55) {
            come();
        } else if (what < 72) {
            end();
        } else if (what < 92) {
            say();
        } else if (what < 94) {
            hold();
        } else if (what < 97) {
            int k = odd(1 + pick(manner % 4 + 1));
            Due.is(where + "fair(" + k + ")", chain.fair(k), plain.fair(k));
        } else if (what < 98) {
            Due.is(where + "begin()", chain.begin(), plain.begin());
        } else if (what < 99) {
            int seat = odd(pick(plain.count(0)));
            Due.is(where + "falseSeat(" + seat + ")", chain.falseSeat(seat), plain.falseSeat(seat));
        } else if (pick(8) == 0) {
            int n = odd(4 + pick(4));
            Due.is(where + "seats(" + n + ")", chain.seats(n), plain.seats(n));
        }
    }

    private int someLetter() {
        int sent = Math.max(1, plain.count(2));
        return odd(pick(2) == 0 ? pick(sent) : Math.max(0, sent - 1 - pick(12)));
    }

    private void come() {
        int letter = someLetter();
        int seat = odd(pick(plain.count(0)));
        // What has come already is answered by NO: look a little for what has not.
        for (int i = 0; i < 6 && plain.votes(seat, 1, 0, 0, -2) >= 0 && hasCome(letter, seat); i++) {
            letter = someLetter();
        }
        bring(letter, seat);
    }

    /** All comes in order, but to the laggard nothing before all else came; then in any order. */
    private void comeButHoldBack(int laggard) {
        int sent = plain.count(2);
        for (int letter = 0; letter < sent; letter++) {
            for (int seat = 0; seat < plain.count(0); seat++) {
                if (seat != laggard && plain.isAwaited(letter, seat)) {
                    bring(letter, seat);
                    return;
                }
            }
        }
        int first = pick(Math.max(1, sent));
        for (int i = 0; i < sent && laggard >= 0; i++) {
            int letter = (first + i) % sent;
            if (plain.isAwaited(letter, laggard)) {
                bring(letter, laggard);
                return;
            }
        }
        end();
    }

    private void bring(int letter, int seat) {
        Due.is(where + "come(" + letter + ", " + seat + ")", chain.come(letter, seat), plain.come(letter, seat));
    }

    private boolean hasCome(int letter, int seat) {
        return plain.letter(letter, 0) == seat || plain.letter(letter, 6) >= plain.count(0) - plain.count(1);
    }

    private void end() {
        int seat = odd(pick(plain.count(0)));
        int timer = odd(pick(3));
        for (int i = 0; i < 6 && (plain.seat(seat, 7) >> timer & 1) == 0; i++) {
            seat = odd(pick(plain.count(0)));
            timer = odd(pick(3));
        }
        Due.is(where + "end(" + seat + ", " + timer + ")", chain.end(seat, timer), plain.end(seat, timer));
    }

    private void say() {
        int n = plain.count(0);
        if (pick(6) == 0) {
            height = pick(6);
            round = pick(10);
        } else if (pick(2) == 0) {
            int of = pick(n);
            height = Math.min(5, plain.seat(of, 0));
            round = Math.min(9, plain.seat(of, 1) + (pick(3) == 0 ? 1 + pick(2) : 0));
        }
        int kind = odd(pick(3));
        int seat = kind == 0 && pick(2) == 0 ? (height + round) % n : pick(n);
        int value = odd(pick(5) - (kind == 0 ? 0 : 1));
        int vr = odd(pick(2) == 0 ? -1 : pick(Math.max(1, round + 1)));
        for (int i = 0; i < 8 && plain.seat(seat, 8) != 1; i++) {
            seat = odd(pick(n));
        }
        int h = odd(height);
        int r = odd(round);
        Due.is(where + "say(" + seat + ", " + kind + ", " + h + ", " + r + ", " + value + ", " + vr + ")",
            chain.say(seat, kind, h, r, value, vr), plain.say(seat, kind, h, r, value, vr));
    }

    /** A false seat says to one seat alone what that one may heed now. */
    private void push() {
        int n = plain.count(0);
        int from = pick(n);
        int to = pick(n);
        for (int i = 0; i < 20 && (plain.seat(from, 8) != 1 || plain.seat(to, 8) == 1); i++) {
            from = pick(n);
            to = pick(n);
        }
        int kind = pick(3);
        int h = Math.min(5, plain.seat(to, 0));
        int r = Math.min(9, plain.seat(to, 1) + pick(12) / 11);
        int vr = pick(3) == 0 && r > 0 ? pick(r) : -1;
        int value = to % 2 + pick(6) / 5;
        Due.is(where + "say(" + from + ", " + kind + ", " + h + ", " + r + ", " + value + ", " + vr + ")",
            chain.say(from, kind, h, r, value, vr), plain.say(from, kind, h, r, value, vr));
        bring(plain.count(2) - 1, to);
    }

    private void look() {
        int seat = odd(pick(plain.count(0)));
        int h = odd(pick(6));
        int r = odd(pick(10));
        int what = odd(pick(11));
        switch (pick(6)) {
            case 0:
                Due.is(where + "seat(" + seat + ", " + what + ")", chain.seat(seat, what), plain.seat(seat, what));
                break;
            case 1:
                what = odd(pick(3));
                Due.is(where + "decided(" + seat + ", " + h + ", " + what + ")",
                    chain.decided(seat, h, what), plain.decided(seat, h, what));
                break;
            case 2:
                int letter = someLetter();
                what = odd(pick(7));
                Due.is(where + "letter(" + letter + ", " + what + ")",
                    chain.letter(letter, what), plain.letter(letter, what));
                break;
            case 3:
                int kind = odd(1 + pick(2));
                int value = odd(pick(7) - 2);
                r = odd(pick(3));
                Due.is(where + "votes(" + seat + ", " + kind + ", " + h + ", " + r + ", " + value + ")",
                    chain.votes(seat, kind, h, r, value), plain.votes(seat, kind, h, r, value));
                break;
            case 4:
                int t = odd(pick(plain.count(0)));
                Due.is(where + "shown(" + seat + ", " + t + ")", chain.shown(seat, t), plain.shown(seat, t));
                break;
            default:
                Due.is(where + "count(" + what + ")", chain.count(what), plain.count(what));
        }
    }
}
