/** Promise by promise: a test for each sentence of the document that names a boundary case, quoted above it. */
public final class BoundaryTest extends Scene {
    private static final int MOST_LETTERS = 400;

    public static void main(String[] args) {
        BoundaryTest t = new BoundaryTest();
        t.newObject();
        t.seatsFourToSeven();
        t.seatsAreAsAtFirst();
        t.seatsForgetHeightsAndLies();
        t.seatsTheTwentyFirstTime();
        t.falseSeatsAreCounted();
        t.falseSeatIsNo();
        t.holdsFromOneToNinetyNine();
        t.holdsAtAnyTime();
        t.begins();
        t.saysWhatIsLeastAndGreatest();
        t.saysVotesWhateverVr();
        t.sayIsNo();
        t.sayIsFull();
        t.comesToAllOthersOnce();
        t.comesWhenLettersAreFull();
        t.comesToOneThatIsDone();
        t.endsEachTimerOnce();
        t.endIsNo();
        t.fairTurnsUntilNothingIsLeft();
        t.fairTurnsThirty();
        t.fairIsNo();
        t.seatAsAtFirst();
        t.seatIsFalseDoneOrStale();
        t.seatHasNone();
        t.decidedNone();
        t.decidedAtTheLastHeight();
        t.letterNilAndNone();
        t.letterCameToHowMany();
        t.votesOfUnlikeSeats();
        t.votesOfTheCorners();
        t.shownOfTheCorners();
        t.shownNeedsTwoThatCame();
        t.countsOfEachSize();
        t.countsBegun();
        t.countsHeightsOfTheFirstAndTheLast();
        t.countsSplitHeights();
        t.countsWhatHasStillToCome();
        Due.finish("BoundaryTest");
    }

    // ---- Promise 1: Four SEATS, none FALSE, not begun.

    private void newObject() {
        x = new LockedChain();
        String first = look(4);
        Due.is("1: no letter", x.letter(0, 0), BAD);
        Due.is("1: nothing to come", x.come(0, 0), BAD);
        Due.is("1: no fifth seat", x.falseSeat(4), BAD);
        x.seats(4);
        alike("1: as four seats anew", first, look(4));
        Due.is("1: the fourth seat", x.falseSeat(3), 1);
    }

    // ---- Promise 2: n SEATS, all as at first, none FALSE, not begun: n. BAD; FULL: the 21st time.

    private void seatsFourToSeven() {
        x = new LockedChain();
        for (int n = 4; n <= 7; n++) {
            Due.is("2: seats " + n, x.seats(n), n);
            Due.is("2: the last seat of " + n, x.seat(n - 1, 0), 0);
            Due.is("2: none behind it", x.seat(n, 0), BAD);
        }
        Due.is("2: fewer again", x.seats(4), 4);
        Due.is("2: the seats above are gone", x.seat(4, 0), BAD);
        Due.is("2: 3", x.seats(3), BAD);
        Due.is("2: 8", x.seats(8), BAD);
        Due.is("2: still four", x.count(0), 4);
    }

    /** What some calls answer, of which each would feel what is left of an earlier seating. */
    private String someRun() {
        StringBuilder all = new StringBuilder();
        all.append(x.hold(0, 1)).append(x.hold(0, 99)).append(x.hold(1, 50)).append(' ').append(x.falseSeat(3));
        all.append(' ').append(x.begin()).append(' ');
        all.append(x.say(3, PROPOSAL, 0, 0, 7, NO_VR)).append(x.come(0, 1)).append(x.come(2, 1)).append(' ');
        for (int kind = PREVOTE; kind <= PRECOMMIT; kind++) {
            for (int seat = 0; seat < 4; seat++) {
                all.append(x.votes(seat, kind, 0, 0, WHATEVER)).append(x.shown(seat, 3)).append(' ');
            }
        }
        return all.append(look(4)).toString();
    }

    private void seatsAreAsAtFirst() {
        x = new LockedChain();
        String first = look(4);
        String run = someRun();
        x.fair(9);
        Due.is("2: decided meanwhile", x.decided(0, 0, 0), 1);
        Due.is("2: seats", x.seats(4), 4);
        alike("2: as at first", look(4), first);
        x.hold(0, 1);
        Due.is("2: it holds one value", x.seat(0, 9), 1);
        x.seats(4);
        alike("2: and the same calls answer the same", someRun(), run);
    }

    private void seatsForgetHeightsAndLies() {
        lay(4, 0);
        x.begin();
        tellVotes(PREVOTE, 0, 0, 0, 1, 2);
        tell(3, PROPOSAL, 5, 9, 1, NO_VR);
        tell(3, PROPOSAL, 5, 9, 2, NO_VR);
        tellVotes(PRECOMMIT, 5, 9, NIL, 1, 2, 3);
        dueSeat("2: locked", 0, 0, 2, 0, 0, 0, 0, 0, 0);
        Due.is("2: shown", x.shown(0, 3), 1);
        x.seats(5);
        dueSeat("2: as at first", 0, 0, 0, NONE, NONE, NONE, NONE, 0, 0, 0);
        Due.is("2: nobody is shown", x.shown(0, 3), 0);
        Due.is("2: no votes", x.votes(0, PRECOMMIT, 5, 9, WHATEVER), 0);
        Due.is("2: nothing has still to come", x.count(3), 0);
        Due.is("2: no letters", x.letter(0, 0), BAD);
        Due.is("2: none to come", x.come(0, 1), BAD);
        x.falseSeat(1);
        Due.is("2: letters from 0 again", x.begin(), 2);
        Due.is("2: no votes of an earlier seating", x.votes(0, PREVOTE, 0, 0, WHATEVER), 1);
        x.come(x.say(1, PRECOMMIT, 5, 9, NIL, 0), 0);
        Due.is("2: one vote by now", x.votes(0, PRECOMMIT, 5, 9, WHATEVER), 1);
        x.fair(1);
        x.seats(4);
        x.falseSeat(0);
        Due.is("2: a proposal of an earlier seating is answered by nobody", x.begin(), 0);
        Due.is("2: nor is there one", x.letter(0, 0), BAD);
    }

    private void seatsTheTwentyFirstTime() {
        x = new LockedChain();
        for (int time = 1; time <= 20; time++) {
            Due.is("2: BAD is no time", x.seats(time % 2 == 0 ? 3 : 8), BAD);
            Due.is("2: time " + time, x.seats(4 + time % 4), 4 + time % 4);
        }
        x.falseSeat(3);
        x.begin();
        String before = look(4);
        Due.is("2: time 21", x.seats(4), FULL);
        Due.is("2: time 22", x.seats(7), FULL);
        Due.is("2: BAD ahead of FULL", x.seats(3), BAD);
        alike("2: nothing changes", look(4), before);
        Due.is("2: the run goes on", x.come(0, 1), 3);
        Due.is("2: another object has its own times", new LockedChain().seats(7), 7);
    }

    // ---- Promise 3: A SEAT is FALSE: how many are. BAD; NO: it is, or it is begun.

    private void falseSeatsAreCounted() {
        x = new LockedChain();
        for (int n = 4; n <= 7; n++) {
            x.seats(n);
            for (int i = 0; i < n; i++) {
                Due.is("3: " + n + " seats, from the last down", x.falseSeat(n - 1 - i), i + 1);
                Due.is("3: counted", x.count(1), i + 1);
            }
            Due.is("3: no further one", x.falseSeat(n), BAD);
        }
    }

    private void falseSeatIsNo() {
        x = new LockedChain();
        x.falseSeat(0);
        Due.is("3: it is, not begun", x.falseSeat(0), NO);
        Due.is("3: another one is not", x.falseSeat(3), 2);
        x.begin();
        Due.is("3: it is, and begun", x.falseSeat(0), NO);
        Due.is("3: begun", x.falseSeat(1), NO);
        Due.is("3: still two", x.count(1), 2);
        x.seats(4);
        Due.is("3: not begun any more", x.falseSeat(0), 1);
    }

    // ---- Promise 4: A SEAT HOLDS a VALUE (1 to 99), too: 1, or 0, if it did. BAD.

    private void holdsFromOneToNinetyNine() {
        x = new LockedChain();
        for (int value = 99; value >= 1; value--) {
            Due.is("4: value " + value, x.hold(3, value), 1);
        }
        Due.is("4: EMPTY is not held", x.hold(3, 0), BAD);
        Due.is("4: 100", x.hold(3, 100), BAD);
        Due.is("4: 1 again", x.hold(3, 1), 0);
        Due.is("4: 99 again", x.hold(3, 99), 0);
        Due.is("4: all", x.seat(3, 9), 99);
        Due.is("4: another seat holds none", x.seat(2, 9), 0);
    }

    private void holdsAtAnyTime() {
        layAlone();
        Due.is("4: behind begin", x.hold(0, 99), 1);
        Due.is("4: again", x.hold(0, 99), 0);
        Due.is("4: a false seat", x.hold(3, 99), 1);
        Due.is("4: a false seat again", x.hold(3, 99), 0);
        decideAll(0);
        Due.is("4: behind the last height", x.hold(0, 1), 1);
        Due.is("4: two", x.seat(0, 9), 2);
        x.seats(4);
        Due.is("4: anew", x.hold(0, 99), 1);
    }

    /** Seat 0 of four, the only honest one, decides what seat 1 proposes, at all heights left. */
    private void decideAll(int value) {
        for (int height = x.seat(0, 0); height < 6; height++) {
            int round = (4 - height % 4) % 4 + 1;
            tell(1, PROPOSAL, height, round, value, NO_VR);
            tellVotes(PRECOMMIT, height, round, value, 1, 2, 3);
        }
        Due.is("done", x.seat(0, 8), 2);
    }

    // ---- Promise 5: All START: how many LETTERS there are. NO: it is begun.

    private void begins() {
        for (int n = 4; n <= 7; n++) {
            lay(n, n - 1);
            Due.is("5: the last of " + n + " alone, which does not propose", x.begin(), 0);
            Due.is("5: it waits", x.seat(n - 1, 7), 1);
            Due.is("5: again, though nothing was sent", x.begin(), NO);
            lay(n);
            Due.is("5: all false", x.begin(), 0);
            Due.is("5: all false, again", x.begin(), NO);
            x.seats(n);
            Due.is("5: seats anew", x.begin(), 2);
        }
    }

    // ---- Promise 6: A FALSE SEAT sends a LETTER: its number. BAD: also a VALUE not 0 to 99
    // ---- (NIL: -1, of KIND 1, 2 alone), VR not -1 (none) to 9 (KINDS 1, 2: not looked at).
    // ---- NO: the SEAT is not FALSE, or not begun. FULL: 400.

    private void saysWhatIsLeastAndGreatest() {
        for (int n = 4; n <= 7; n++) {
            lay(n);
            x.begin();
            int[][] all = {
                {0, PROPOSAL, 0, 0, 0, NO_VR}, {n - 1, PROPOSAL, 5, 9, 99, 9}, {n - 1, PROPOSAL, 0, 9, 0, 0},
                {0, PREVOTE, 0, 0, NIL, NO_VR}, {n - 1, PREVOTE, 5, 9, 99, NO_VR}, {0, PREVOTE, 5, 0, 0, NO_VR},
                {n - 1, PRECOMMIT, 0, 0, NIL, NO_VR}, {0, PRECOMMIT, 5, 9, 99, NO_VR}, {1, PRECOMMIT, 0, 9, 0, NO_VR},
            };
            for (int i = 0; i < all.length; i++) {
                int[] l = all[i];
                Due.is("6: its number", x.say(l[0], l[1], l[2], l[3], l[4], l[5]), i);
                for (int what = 0; what < l.length; what++) {
                    Due.is("6: letter " + i + ", " + what, x.letter(i, what), l[what]);
                }
            }
            Due.is("6: a proposal has no NIL", x.say(0, PROPOSAL, 0, 0, NIL, NO_VR), BAD);
        }
    }

    private void saysVotesWhateverVr() {
        lay(4, 0);
        x.begin();
        int number = 2;
        for (int vr : new int[] {LEAST, -2, NO_VR, 0, 9, 10, GREATEST}) {
            for (int kind = PREVOTE; kind <= PRECOMMIT; kind++) {
                Due.is("6: VR " + vr + " of kind " + kind, x.say(1, kind, 3, 3, 5, vr), number);
                x.come(number, 0);
                number++;
            }
        }
        Due.is("6: whose VR shows nothing", x.shown(0, 1), 0);
    }

    private void sayIsNo() {
        lay(4, 1);
        Due.is("6: false, not begun", x.say(0, PREVOTE, 0, 0, 0, 0), NO);
        Due.is("6: neither", x.say(1, PREVOTE, 0, 0, 0, 0), NO);
        x.begin();
        Due.is("6: not false", x.say(1, PREVOTE, 0, 0, 0, 0), NO);
        Due.is("6: the first letter", x.say(0, PREVOTE, 0, 0, 0, 0), 0);
        x.seats(4);
        x.falseSeat(0);
        Due.is("6: not begun any more", x.say(0, PREVOTE, 0, 0, 0, 0), NO);
    }

    private void sayIsFull() {
        lay(4);
        x.begin();
        for (int i = 0; i < MOST_LETTERS; i++) {
            Due.is("6: number " + i, x.say(i % 4, i % 3, i % 6, i % 10, i % 100, NO_VR), i);
        }
        Due.is("6: 400", x.say(0, PREVOTE, 0, 0, 0, 0), FULL);
        Due.is("6: 400, a proposal", x.say(3, PROPOSAL, 5, 9, 99, 9), FULL);
        Due.is("6: nothing changes", x.count(2), MOST_LETTERS);
        Due.is("6: no letter 400", x.letter(400, 0), BAD);
        int[] last = {3, 0, 3, 9, 99, NO_VR, 0};
        for (int what = 0; what < last.length; what++) {
            Due.is("6: letter 399, " + what, x.letter(399, what), last[what]);
        }
        x.seats(4);
        x.falseSeat(2);
        x.begin();
        Due.is("6: seats anew, letters from 0", x.say(2, PREVOTE, 0, 0, 0, 0), 2);
    }

    // ---- Promise 7: A LETTER comes to a SEAT: how many LETTERS there are then. BAD; NO: it came there
    // ---- already, or the SEAT is FALSE.

    private void comesToAllOthersOnce() {
        for (int n = 4; n <= 7; n++) {
            lay(n, 0, 1, n - 1);
            x.begin();
            Due.is("7: its own", x.come(0, 0), NO);
            Due.is("7: to seat 1, which prevotes", x.come(0, 1), 3);
            Due.is("7: to the last seat, which prevotes", x.come(0, n - 1), 4);
            Due.is("7: to the last seat again", x.come(0, n - 1), NO);
            Due.is("7: to a false seat", x.come(0, 2), NO);
            int said = x.say(2, PREVOTE, 5, 9, NIL, 0);
            Due.is("7: a false seat's own", x.come(said, 2), NO);
            Due.is("7: to seat 0", x.come(said, 0), 5);
            Due.is("7: to seat 0 again", x.come(said, 0), NO);
            Due.is("7: the letter behind the last", x.come(said + 1, 0), BAD);
        }
    }

    private void comesWhenLettersAreFull() {
        layAlone();
        fillTo(1, 399);
        int last = x.say(1, PREVOTE, 0, 1, 3, 0);
        Due.is("7: letter 399", last, 399);
        Due.is("7: it comes", x.come(399, 0), 400);
        Due.is("7: again", x.come(399, 0), NO);
        Due.is("7: letter 400", x.come(400, 0), BAD);
        Due.is("7: it counts", x.votes(0, PREVOTE, 0, 1, 3), 1);
    }

    private void comesToOneThatIsDone() {
        layAlone();
        decideAll(0);
        int said = x.say(1, PREVOTE, 5, 9, 3, 0);
        Due.is("7: to one that is done", x.come(said, 0), said + 1);
        Due.is("7: it came", x.letter(said, 6), 1);
        Due.is("7: again", x.come(said, 0), NO);
    }

    // ---- Promise 8: A TIMER of a SEAT ends: how many LETTERS there are then. BAD; NO: it is not set.

    private void endsEachTimerOnce() {
        layAlone();
        jump(0, 1);
        dueSeat("8: timer 0", 0, 1, 0, NONE, NONE, NONE, NONE, 1);
        int sent = x.count(2);
        Due.is("8: ends, PREVOTE NIL", x.end(0, 0), sent + 1);
        Due.is("8: not set any more", x.end(0, 0), NO);
        dueSeat("8: timer 1, for many prevoted", 0, 1, 1, NONE, NONE, NONE, NONE, 2);
        Due.is("8: ends, PRECOMMIT NIL", x.end(0, 1), sent + 2);
        Due.is("8: not set any more", x.end(0, 1), NO);
        tellVotes(PRECOMMIT, 0, 1, NIL, 2, 3);
        dueSeat("8: timer 2, for many precommitted", 0, 1, 2, NONE, NONE, NONE, NONE, 4);
        Due.is("8: ends, nothing to send", x.end(0, 2), sent + 4);
        Due.is("8: not set any more", x.end(0, 2), NO);
        dueSeat("8: the next round", 0, 2, 0, NONE, NONE, NONE, NONE, 1);
    }

    private void endIsNo() {
        x = new LockedChain();
        for (int timer = 0; timer <= 2; timer++) {
            Due.is("8: not begun", x.end(3, timer), NO);
        }
        layAlone();
        for (int timer = 0; timer <= 2; timer++) {
            Due.is("8: not set", x.end(0, timer), NO);
            Due.is("8: a false seat", x.end(3, timer), NO);
        }
        decideAll(0);
        for (int timer = 0; timer <= 2; timer++) {
            Due.is("8: done", x.end(0, timer), NO);
        }
    }

    // ---- Promise 9: k FAIR TURNS (1 to 30), until one would do nothing: how many were done. BAD; NO: not begun.

    private void fairTurnsUntilNothingIsLeft() {
        lay(4, 1);
        x.begin();
        Due.is("9: its timer ends, and then nothing is left", x.fair(30), 1);
        Due.is("9: nothing", x.fair(1), 0);
        Due.is("9: nothing, thirty times", x.fair(30), 0);
        x.say(0, PREVOTE, 5, 0, 0, 0);
        Due.is("9: one letter", x.fair(2), 1);
        lay(4);
        x.begin();
        x.say(0, PREVOTE, 0, 0, 0, 0);
        Due.is("9: letters, but all seats are false", x.fair(30), 0);
    }

    /** Seats 0 and 1 never find many for a value; seat 2 votes NIL in each round: ten rounds, all given up. */
    private void tenLostRounds() {
        lay(4, 0, 1);
        x.begin();
        for (int round = 0; round <= 9; round++) {
            x.say(2, PREVOTE, 0, round, NIL, 0);
            x.say(2, PRECOMMIT, 0, round, NIL, 0);
        }
    }

    /**
     * Six rounds of an honest proposer take four turns each (letters, timers 1, letters, timers 2), four of a false one
     * three (timers 0, letters, timers 2): 36.
     */
    private void fairTurnsThirty() {
        tenLostRounds();
        Due.is("9: thirty of 36", x.fair(30), 30);
        Due.is("9: round 8 is not lost yet", x.seat(0, 1), 8);
        Due.is("9: the last six", x.fair(30), 6);
        Due.is("9: nothing is left", x.fair(30), 0);
        for (int seat = 0; seat <= 1; seat++) {
            Due.is("9: round 9", x.seat(seat, 1), 9);
            Due.is("9: stale", x.seat(seat, 8), 3);
        }
        tenLostRounds();
        Due.is("9: 29", x.fair(29), 29);
        Due.is("9: one", x.fair(1), 1);
        Due.is("9: six are left", x.fair(6), 6);
        Due.is("9: and none behind them", x.fair(1), 0);
    }

    private void fairIsNo() {
        x = new LockedChain();
        Due.is("9: not begun, 1", x.fair(1), NO);
        Due.is("9: not begun, 30", x.fair(30), NO);
        Due.is("9: not begun, 0", x.fair(0), BAD);
        Due.is("9: not begun, 31", x.fair(31), BAD);
        x.begin();
        x.seats(4);
        Due.is("9: not begun any more", x.fair(1), NO);
    }

    // ---- Promise 10: (NONE) ... 8 1 FALSE, 2 DONE, 3 STALE, else 0 ... BAD.
    // ---- (Of a FALSE one, or not begun: as at first.)

    private void seatAsAtFirst() {
        for (int n = 4; n <= 7; n++) {
            lay(n, 0);
            dueSeat("10: not begun", 0, 0, 0, NONE, NONE, NONE, NONE, 0, 0, 0);
            x.begin();
            x.say(n - 1, PREVOTE, 0, 9, 5, 0);
            x.fair(30);
            int[] first = {0, 0, 0, NONE, NONE, NONE, NONE, 0, 1, 0};
            for (int what = 0; what < first.length; what++) {
                Due.is("10: a false one, " + what, x.seat(n - 1, what), first[what]);
            }
        }
    }

    private void seatIsFalseDoneOrStale() {
        layAlone();
        Due.is("10: else", x.seat(0, 8), 0);
        Due.is("10: FALSE", x.seat(1, 8), 1);
        jump(0, 9);
        tellVotes(PRECOMMIT, 0, 9, NIL, 1, 2, 3);
        Due.is("10: round 9 is not STALE", x.seat(0, 8), 0);
        x.end(0, 2);
        Due.is("10: STALE", x.seat(0, 8), 3);
        decideAll(0);
        Due.is("10: DONE", x.seat(0, 8), 2);
    }

    /** VALUE 0 and ROUND 0 are something, and not NONE. */
    private void seatHasNone() {
        layAlone();
        dueSeat("10: none", 0, 0, 1, NONE, NONE, NONE, NONE);
        tellVotes(PREVOTE, 0, 0, 0, 1, 2);
        dueSeat("10: EMPTY in round 0", 0, 0, 2, 0, 0, 0, 0);
        layAlone();
        jump(0, 9);
        tell(1, PROPOSAL, 0, 9, 99, NO_VR);
        tellVotes(PREVOTE, 0, 9, 99, 1, 2);
        dueSeat("10: 99 in round 9", 0, 9, 2, 99, 9, 99, 9);
    }

    // ---- Promise 11: What a SEAT decided at a HEIGHT: 0 the VALUE, 1 the ROUND, 2 THE LINK. NONE; BAD.

    private void decidedNone() {
        layAlone();
        for (int what = 0; what <= 2; what++) {
            Due.is("11: nothing at height 0", x.decided(0, 0, what), NONE);
            Due.is("11: nothing at height 5", x.decided(0, 5, what), NONE);
            Due.is("11: nothing of a false seat", x.decided(3, 0, what), NONE);
        }
        tellVotes(PRECOMMIT, 0, 0, 0, 1, 2, 3);
        int[] first = {0, 0, 7000022};
        for (int what = 0; what <= 2; what++) {
            Due.is("11: EMPTY in round 0, " + what, x.decided(0, 0, what), first[what]);
            Due.is("11: nothing at the height there is", x.decided(0, 1, what), NONE);
        }
        x.seats(4);
        Due.is("11: not begun", x.decided(0, 0, 0), NONE);
    }

    private void decidedAtTheLastHeight() {
        layAlone();
        tell(1, PROPOSAL, 0, 9, 99, NO_VR);
        tellVotes(PRECOMMIT, 0, 9, 99, 1, 2, 3);
        Due.is("11: the greatest value", x.decided(0, 0, 0), 99);
        Due.is("11: the greatest round", x.decided(0, 0, 1), 9);
        decideAll(0);
        Due.is("11: height 5", x.decided(0, 5, 0), 0);
        Due.is("11: its round", x.decided(0, 5, 1), 4);
        Due.is("11: no height 6", x.decided(0, 6, 0), BAD);
        Due.is("11: no height 6, link", x.decided(0, 6, 2), BAD);
    }

    // ---- Promise 12: 4 VALUE (-1: NIL), 5 VR (-1: none), 6 to how many SEATS it came. BAD.

    private void letterNilAndNone() {
        layAlone();
        Due.is("12: no VR", x.letter(0, 5), NO_VR);
        Due.is("12: the vote for EMPTY is not NIL", x.letter(1, 4), 0);
        Due.is("12: a vote has no VR", x.letter(1, 5), NO_VR);
        jump(0, 1);
        x.end(0, 0);
        Due.is("12: NIL", x.letter(x.count(2) - 1, 4), NIL);
        int said = x.say(1, PROPOSAL, 0, 1, 0, 0);
        Due.is("12: VR 0 is not none", x.letter(said, 5), 0);
        Due.is("12: the last letter", x.letter(said, 0), 1);
        Due.is("12: none behind it", x.letter(said + 1, 0), BAD);
    }

    private void letterCameToHowMany() {
        for (int n = 4; n <= 7; n++) {
            x = new LockedChain();
            x.seats(n);
            x.begin();
            Due.is("12: to its sender alone", x.letter(0, 6), 1);
            for (int seat = 1; seat < n; seat++) {
                x.come(0, seat);
                Due.is("12: to seat " + seat, x.letter(0, 6), seat + 1);
            }
            lay(n, n - 1);
            x.begin();
            x.say(0, PREVOTE, 0, 0, 0, 0);
            Due.is("12: to nobody", x.letter(0, 6), 0);
            x.fair(1);
            Due.is("12: to all that are not false", x.letter(0, 6), 1);
        }
    }

    // ---- Promise 13: How many SEATS (unlike ones) voted so, by LETTERS that came to a SEAT: KIND 1, 2,
    // ---- of a HEIGHT, ROUND, for a VALUE (-1 NIL; -2 whatever). BAD.

    private void votesOfUnlikeSeats() {
        for (int n = 4; n <= 7; n++) {
            lay(n, 0);
            x.begin();
            for (int seat = 1; seat < n; seat++) {
                Due.is("13: so far", x.votes(0, PRECOMMIT, 3, 3, WHATEVER), seat - 1);
                tell(seat, PRECOMMIT, 3, 3, NIL, NO_VR);
                tell(seat, PRECOMMIT, 3, 3, NIL, NO_VR);
                tell(seat, PRECOMMIT, 3, 3, 0, NO_VR);
                x.say(seat, PRECOMMIT, 3, 3, 1, NO_VR);
            }
            Due.is("13: NIL", x.votes(0, PRECOMMIT, 3, 3, NIL), n - 1);
            Due.is("13: EMPTY is not NIL", x.votes(0, PRECOMMIT, 3, 3, 0), n - 1);
            Due.is("13: what did not come", x.votes(0, PRECOMMIT, 3, 3, 1), 0);
            Due.is("13: whatever", x.votes(0, PRECOMMIT, 3, 3, WHATEVER), n - 1);
            Due.is("13: its own prevote", x.votes(0, PREVOTE, 0, 0, 0), 1);
            Due.is("13: none came to a false seat", x.votes(1, PRECOMMIT, 3, 3, WHATEVER), 0);
        }
    }

    private void votesOfTheCorners() {
        layAlone();
        int[][] corners = {{PREVOTE, 0, 9}, {PREVOTE, 5, 0}, {PREVOTE, 5, 9}, {PRECOMMIT, 0, 0}, {PRECOMMIT, 0, 9},
            {PRECOMMIT, 5, 0}, {PRECOMMIT, 5, 9}};
        for (int[] c : corners) {
            for (int value : new int[] {NIL, 0, 99}) {
                Due.is("13: none yet", x.votes(0, c[0], c[1], c[2], value), 0);
                tell(3, c[0], c[1], c[2], value, NO_VR);
                Due.is("13: one", x.votes(0, c[0], c[1], c[2], value), 1);
            }
        }
        for (int[] c : corners) {
            Due.is("13: whatever", x.votes(0, c[0], c[1], c[2], WHATEVER), 1);
        }
    }

    // ---- Promise 14: 1: SEAT t is SHOWN to a SEAT, 0. BAD.

    private void shownOfTheCorners() {
        for (int kind = PROPOSAL; kind <= PRECOMMIT; kind++) {
            for (int corner = 0; corner < 4; corner++) {
                int height = corner % 2 * 5;
                int round = corner / 2 * 9;
                lay(7, 6);
                x.begin();
                x.come(x.say(0, kind, height, round, 0, NO_VR), 6);
                x.come(x.say(1, kind, height, round, 99, NO_VR), 6);
                Due.is("14: one letter of each", x.shown(6, 0) + x.shown(6, 1), 0);
                x.come(x.say(0, kind, height, round, 99, NO_VR), 6);
                Due.is("14: two of seat 0", x.shown(6, 0), 1);
                Due.is("14: one of seat 1", x.shown(6, 1), 0);
                Due.is("14: nothing of itself", x.shown(6, 6), 0);
                Due.is("14: to a false seat nothing came", x.shown(1, 0), 0);
            }
        }
    }

    private void shownNeedsTwoThatCame() {
        layAlone();
        int one = x.say(3, PREVOTE, 0, 0, NIL, 0);
        int two = x.say(3, PREVOTE, 0, 0, 0, 0);
        Due.is("14: none came", x.shown(0, 3), 0);
        x.come(two, 0);
        Due.is("14: one came", x.shown(0, 3), 0);
        x.come(one, 0);
        Due.is("14: both came", x.shown(0, 3), 1);
        tell(2, PREVOTE, 1, 1, 4, 0);
        tell(2, PREVOTE, 1, 1, 4, 9);
        tell(2, PRECOMMIT, 1, 1, 5, 0);
        tell(2, PREVOTE, 1, 2, 6, 0);
        tell(2, PREVOTE, 2, 1, 7, 0);
        Due.is("14: alike, or unlike in kind, round, height", x.shown(0, 2), 0);
        tell(1, PROPOSAL, 1, 1, 4, NO_VR);
        tell(1, PROPOSAL, 1, 1, 4, NO_VR);
        Due.is("14: no VR twice", x.shown(0, 1), 0);
        tell(1, PROPOSAL, 1, 1, 4, 0);
        Due.is("14: no VR, and VR 0", x.shown(0, 1), 1);
    }

    // ---- Promise 15: 3 LETTERS that have still to come to some SEAT (not FALSE; for each), 4 the least HEIGHT
    // ---- of those not FALSE (0 not begun), 5 the greatest, ... 9 HEIGHTS at which two that are not FALSE
    // ---- decided unlike VALUES.

    private void countsOfEachSize() {
        int[][] all = {{4, 3, 2}, {5, 4, 2}, {6, 5, 2}, {7, 5, 3}};
        x = new LockedChain();
        for (int[] one : all) {
            x.seats(one[0]);
            int[] first = {one[0], 0, 0, 0, 0, 0, 0, one[1], one[2], 0};
            for (int what = 0; what < first.length; what++) {
                Due.is("15: not begun, " + one[0] + " seats, " + what, x.count(what), first[what]);
            }
        }
    }

    private void countsBegun() {
        for (int falseSeats = 0; falseSeats <= 4; falseSeats += 4) {
            x = new LockedChain();
            for (int seat = 0; seat < falseSeats; seat++) {
                x.falseSeat(seat);
            }
            Due.is("15: not begun", x.count(6), 0);
            x.begin();
            Due.is("15: begun", x.count(6), 1);
            Due.is("15: the least height, also of none", x.count(4), 0);
            Due.is("15: the greatest height, also of none", x.count(5), 0);
            Due.is("15: nothing decided", x.count(9), 0);
            x.fair(1);
            x.seats(4);
            Due.is("15: not begun any more", x.count(6), 0);
            Due.is("15: nor at a height", x.count(4) + x.count(5), 0);
        }
    }

    private void countsHeightsOfTheFirstAndTheLast() {
        for (int ahead : new int[] {0, 3}) {
            lay(4, ahead);
            x.begin();
            decideByLies(ahead, 0, 0, 1, 2);
            Due.is("15: one alone is the least", x.count(4), 1);
            Due.is("15: and the greatest", x.count(5), 1);
            lay(4, 0, 3);
            x.begin();
            decideByLies(ahead, 0, 0, 1, 2);
            decideByLies(ahead, 1, 1, 1, 2);
            Due.is("15: seat " + ahead + " is ahead", x.seat(ahead, 0), 2);
            Due.is("15: the least", x.count(4), 0);
            Due.is("15: the greatest", x.count(5), 2);
            Due.is("15: none split", x.count(9), 0);
        }
    }

    /** All six heights: split at each, but for one at which both decide the same. */
    private void countsSplitHeights() {
        for (int first : new int[] {0, 1}) {
            int second = first + 2;
            lay(4, first, second);
            x.begin();
            int split = 0;
            for (int height = 0; height < 6; height++) {
                decideByLies(first, height, 10 + height, 1 - first, 3 - first);
                Due.is("15: one alone is no split", x.count(9), split);
                decideByLies(second, height, height == 3 ? 13 : 20 + height, 1 - first, 3 - first);
                split += height == 3 ? 0 : 1;
                Due.is("15: heights split", x.count(9), split);
            }
            Due.is("15: five of six", split, 5);
            Due.is("15: all done", x.count(4), 6);
            x.seats(4);
            Due.is("15: none anew", x.count(9), 0);
        }
    }

    /** Two liars bring an honest seat to a round of theirs and to decide a value there. */
    private void decideByLies(int seat, int height, int value, int liar, int other) {
        int round = (4 + liar - height % 4) % 4 + 4;
        x.come(x.say(liar, PROPOSAL, height, round, value, NO_VR), seat);
        x.come(x.say(other, PREVOTE, height, round, value, 0), seat);
        x.come(x.say(liar, PREVOTE, height, round, value, 0), seat);
        x.come(x.say(liar, PRECOMMIT, height, round, value, 0), seat);
        x.come(x.say(other, PRECOMMIT, height, round, value, 0), seat);
        Due.is("15: decided", x.decided(seat, height, 0), value);
    }

    private void countsWhatHasStillToCome() {
        for (int n = 4; n <= 7; n++) {
            lay(n, 0, n - 1);
            Due.is("15: not begun", x.count(3), 0);
            x.begin();
            Due.is("15: two letters to one other", x.count(3), 2);
            x.say(1, PREVOTE, 5, 9, 0, 0);
            Due.is("15: a false seat's to both", x.count(3), 4);
            x.come(2, 0);
            Due.is("15: to one", x.count(3), 3);
            x.come(2, n - 1);
            Due.is("15: to neither", x.count(3), 2);
            x.fair(1);
            Due.is("15: all came", x.count(3), 0);
        }
        lay(4);
        x.begin();
        x.say(0, PREVOTE, 0, 0, 0, 0);
        Due.is("15: there is none to whom", x.count(3), 0);
    }
}
