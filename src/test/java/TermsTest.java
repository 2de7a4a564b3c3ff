import java.math.BigInteger;

/** The boundaries that "What it is" and "Terms" name: a test for each such sentence, quoted above it. */
public final class TermsTest extends Scene {
    private static final int[] MANY = {3, 4, 5, 5};
    private static final int[] SOME = {2, 2, 2, 3};

    public static void main(String[] args) {
        TermsTest t = new TermsTest();
        t.seatsZeroToNMinusOne();
        t.falseSeatsDoNothing();
        t.fiveHundredAndTwelveCalls();
        for (int n = 4; n <= 7; n++) {
            t.manyPrecommitsDecide(n);
            t.someCatchUp(n);
            t.manyPrevotesOfVr(n);
            t.manyPrevotesLock(n);
            t.manyPrevotesForNil(n);
            t.prevotesFromMany(n);
            t.precommitsFromMany(n);
            t.proposerModuloN(n);
            t.onlyTheProposerProposes(n);
        }
        t.emptyIsAlwaysRight();
        t.rightForItselfAlone();
        t.valuesFromEmptyToNinetyNine();
        t.proposesTheLeastThatItHolds();
        t.proposesEmptyIfNoneIsRight();
        t.proposesWhatIsValidInRoundZero();
        t.whatItSendsComesToItAtOnce();
        t.lastLetterIsAProposal();
        t.lostProposal();
        t.lostPrevotes();
        t.lostPrecommits();
        t.startsAboveRoundNine();
        t.staleAsLongAsAtThisHeight();
        t.staleAtTheLastHeight();
        t.behindTheLastHeight();
        t.oneRoundAbove();
        t.neverItsOwnRoundNorBelow();
        t.vrJustBelowItsRound();
        t.lockedJustAboveVr();
        t.lockedInRoundZero();
        t.onceInEachRound();
        t.timersOfTheHeightAndRound();
        t.setAnewIsOfThen();
        t.linksWrapAround();
        t.fairTurnBringsWhatIsSentMeanwhile();
        t.fairTurnEndsWhatIsSetAsItsTurnComes();
        Due.finish("TermsTest");
    }

    private void layBegun(int n) {
        lay(n, 0);
        Due.is("begin", x.begin(), 2);
    }

    /** Seats from one to another say a vote to seat 0. */
    private void tellFrom(int first, int last, int kind, int round, int value) {
        for (int seat = first; seat <= last; seat++) {
            tell(seat, kind, 0, round, value, NO_VR);
        }
    }

    // ---- SEATS 0 to n - 1 (n from 4 to 7), some of them FALSE: these do nothing by themselves.

    private void seatsZeroToNMinusOne() {
        x = new LockedChain();
        for (int n = 4; n <= 7; n++) {
            x.seats(n);
            Due.is("the last holds", x.hold(n - 1, 1), 1);
            Due.is("none behind it holds", x.hold(n, 1), BAD);
            Due.is("none ahead of 0 holds", x.hold(-1, 1), BAD);
            x.falseSeat(0);
            x.begin();
            Due.is("the last started", x.seat(n - 1, 7), 1);
            Due.is("nothing is shown to the last", x.shown(n - 1, n - 1), 0);
        }
    }

    private void falseSeatsDoNothing() {
        lay(7);
        for (int seat = 0; seat < 7; seat++) {
            x.hold(seat, 1 + seat);
        }
        Due.is("all are false: none proposes", x.begin(), 0);
        Due.is("nor has a timer", x.fair(1), 0);
        lay(4, 1);
        x.begin();
        for (int i = 0; i < 4; i++) {
            x.say(i == 1 ? 0 : i, PREVOTE, 0, 0, NIL, 0);
        }
        x.come(0, 1);
        Due.is("a false seat answers no letter", x.count(2), 4);
        Due.is("and none comes to it", x.come(1, 0), NO);
    }

    // ---- An object is used for at most 512 calls after it has been made; what later calls answer is free.

    private void fiveHundredAndTwelveCalls() {
        x = new LockedChain();
        x.falseSeat(3);
        x.begin();
        for (int call = 3; call <= 512; call++) {
            int due = call <= 400 ? call - 1 : FULL;
            Due.is("call " + call, x.say(3, PREVOTE, 5, 9, call % 100, 0), due);
        }
        for (int call = 513; call <= 1000; call++) {
            x.come(call % 500, call % 4);
            x.fair(1 + call % 30);
            x.end(call % 4, call % 3);
            x.seats(call % 9);
            x.begin();
        }
        x = new LockedChain();
        for (int call = 1; call <= 511; call++) {
            x.hold(call % 4, 1 + call % 99);
        }
        Due.is("call 512", x.begin(), 2);
    }

    // ---- MANY is more than two thirds of n: 2 n / 3, cut, and 1; SOME is (n - 1) / 3, cut, and 1.
    // ---- MANY, SOME are so many unlike SEATS.

    private void manyPrecommitsDecide(int n) {
        int many = MANY[n - 4];
        layBegun(n);
        tellFrom(1, many - 1, PRECOMMIT, 0, 0);
        tellFrom(1, many - 1, PRECOMMIT, 0, 0);
        Due.is(n + ": one less than many, each twice", x.seat(0, 0), 0);
        tell(n - 1, PRECOMMIT, 0, 0, 1, NO_VR);
        Due.is(n + ": one for another value", x.seat(0, 0), 0);
        tell(n - 1, PRECOMMIT, 0, 0, 0, NO_VR);
        Due.is(n + ": many precommits", x.seat(0, 0), 1);
    }

    private void someCatchUp(int n) {
        int some = SOME[n - 4];
        layBegun(n);
        tellFrom(1, some - 1, PREVOTE, 9, 3);
        tellFrom(1, some - 1, PRECOMMIT, 9, NIL);
        tellFrom(1, some - 1, PROPOSAL, 9, 3);
        Due.is(n + ": one less than some, with a letter of each kind", x.seat(0, 1), 0);
        tell(some, PREVOTE, 1, 9, 3, NO_VR);
        tell(some, PREVOTE, 0, 8, 3, NO_VR);
        Due.is(n + ": of another height, of another round", x.seat(0, 1), 0);
        tell(some, PREVOTE, 0, 9, NIL, NO_VR);
        Due.is(n + ": some", x.seat(0, 1), 9);
    }

    private void manyPrevotesOfVr(int n) {
        int many = MANY[n - 4];
        layBegun(n);
        tellFrom(n - SOME[n - 4], n - 1, PRECOMMIT, 1, NIL);
        tell(1, PROPOSAL, 0, 1, 7, 0);
        tellFrom(1, many - 1, PREVOTE, 0, 7);
        dueSeat(n + ": one less than many of VR, and its own for another value", 0, 1, 0);
        tell(many, PREVOTE, 0, 0, 7, NO_VR);
        dueSeat(n + ": many", 0, 1, 1);
        dueLast(n + ": prevoted", PREVOTE, 0, 1, 7, NO_VR);
    }

    private void manyPrevotesLock(int n) {
        int many = MANY[n - 4];
        layBegun(n);
        tellFrom(1, many - 2, PREVOTE, 0, 0);
        tellFrom(1, many - 2, PREVOTE, 0, 0);
        dueSeat(n + ": one less than many", 0, 0, 1, NONE, NONE, NONE, NONE, 0);
        tell(many - 1, PREVOTE, 0, 0, 0, NO_VR);
        dueSeat(n + ": many, with its own", 0, 0, 2, 0, 0, 0, 0, 0);
    }

    private void manyPrevotesForNil(int n) {
        int many = MANY[n - 4];
        layBegun(n);
        tellFrom(1, many - 1, PREVOTE, 0, NIL);
        dueSeat(n + ": one less than many for NIL", 0, 0, 1, NONE, NONE, NONE, NONE, 2);
        tell(many - 1, PREVOTE, 0, 0, 1, NO_VR);
        dueSeat(n + ": one of them twice", 0, 0, 1);
        if (many < n) {
            tell(many, PREVOTE, 0, 0, NIL, NO_VR);
            dueSeat(n + ": many for NIL", 0, 0, 2, NONE, NONE, NONE, NONE, 2);
        }
    }

    private void prevotesFromMany(int n) {
        int many = MANY[n - 4];
        layBegun(n);
        tell(1, PREVOTE, 0, 0, 5, NO_VR);
        tellFrom(1, many - 2, PREVOTE, 0, NIL);
        Due.is(n + ": prevotes from one less than many", x.seat(0, 7), 0);
        tell(many - 1, PREVOTE, 0, 0, 6, NO_VR);
        Due.is(n + ": from many, whatever for", x.seat(0, 7), 2);
    }

    private void precommitsFromMany(int n) {
        int many = MANY[n - 4];
        layBegun(n);
        tell(1, PRECOMMIT, 0, 0, 5, NO_VR);
        tellFrom(1, many - 1, PRECOMMIT, 0, NIL);
        Due.is(n + ": precommits from one less than many", x.seat(0, 7), 0);
        tell(many, PRECOMMIT, 0, 0, 6, NO_VR);
        Due.is(n + ": from many, whatever for", x.seat(0, 7), 4);
    }

    // ---- HEIGHTS are 0 to 5, ROUNDS 0 to 9. The PROPOSER of a HEIGHT h, ROUND r is SEAT (h + r) modulo n.

    /** Each height is decided in a round of its own, from that of the run on: all 60 in ten runs. */
    private void proposerModuloN(int n) {
        for (int run = 0; run <= 9; run++) {
            layBegun(n);
            for (int height = 0; height < 6; height++) {
                int round = (run + 7 * height) % 10;
                int proposer = (height + round) % n;
                for (int seat = 1; seat <= MANY[n - 4]; seat++) {
                    tell(seat, PRECOMMIT, height, round, 0, NO_VR);
                }
                for (int seat = 1; seat < n && proposer != 0; seat++) {
                    Due.is(n + ": not decided at " + height + ", round " + round, x.seat(0, 0), height);
                    int speaker = seat < proposer ? seat : seat == n - 1 ? proposer : seat + 1;
                    tell(speaker, PROPOSAL, height, round, 0, NO_VR);
                }
                Due.is(n + ": decided", x.decided(0, height, 0), 0);
                Due.is(n + ": in round " + round, x.decided(0, height, 1), round);
            }
            dueSeat(n + ": done", 6, 0, 0, NONE, NONE, NONE, NONE, 0, 2);
        }
    }

    /** In each round it is known by what the seat does when it starts it: it proposes, or it sets timer 0. */
    private void onlyTheProposerProposes(int n) {
        for (int round = 1; round <= 9; round++) {
            layBegun(n);
            tellFrom(n - SOME[n - 4], n - 1, PRECOMMIT, round, NIL);
            boolean proposes = round % n == 0;
            dueSeat(n + ": round " + round, 0, round, proposes ? 1 : 0, NONE, NONE, NONE, NONE, proposes ? 0 : 1);
        }
        for (int round = 0; round <= 9; round++) {
            layBegun(n);
            for (int height = 0; height < 5; height++) {
                decideBySeat1(n, height);
            }
            for (int seat = n - SOME[n - 4]; seat < n; seat++) {
                tell(seat, PRECOMMIT, 5, round, NIL, NO_VR);
            }
            boolean proposes = (5 + round) % n == 0;
            dueSeat(n + ": height 5, round " + round, 5, round, proposes ? 1 : 0);
        }
    }

    private void decideBySeat1(int n, int height) {
        int round = (n + 1 - height) % n;
        for (int seat = 1; seat <= MANY[n - 4]; seat++) {
            tell(seat, PRECOMMIT, height, round, 0, NO_VR);
        }
        tell(1, PROPOSAL, height, round, 0, NO_VR);
        Due.is(n + ": height " + height + " decided", x.seat(0, 0), height + 1);
    }

    // ---- VALUES are 0 (EMPTY) to 99; NIL is none. A SEAT HOLDS some VALUES from 1 on. To a SEAT a VALUE is RIGHT,
    // ---- if it is EMPTY, or decided at none of its HEIGHTS.

    /** Of four: the height is decided for that value in a round of seat 1. */
    private void decide(int height, int value) {
        int round = (5 - height % 4) % 4;
        tell(1, PROPOSAL, height, round, value, NO_VR);
        for (int seat = 1; seat <= 3; seat++) {
            tell(seat, PRECOMMIT, height, round, value, NO_VR);
        }
    }

    private void emptyIsAlwaysRight() {
        layAlone();
        for (int height = 0; height < 6; height++) {
            decide(height, 0);
            Due.is("EMPTY at height " + height, x.decided(0, height, 0), 0);
        }
        layAlone();
        decide(0, 99);
        for (int height = 1; height < 5; height++) {
            decide(height, 99);
            Due.is("99 is not right at height " + height, x.seat(0, 0), height);
            decide(height, 0);
        }
        decide(5, 99);
        Due.is("nor at the last height", x.seat(0, 0), 5);
        decide(5, 98);
        Due.is("98 is", x.seat(0, 0), 6);
    }

    private void rightForItselfAlone() {
        lay(4, 0, 2);
        x.hold(2, 7);
        x.begin();
        x.come(x.say(1, PROPOSAL, 0, 1, 7, NO_VR), 0);
        x.come(x.say(3, PREVOTE, 0, 1, 7, NO_VR), 0);
        x.come(x.say(1, PREVOTE, 0, 1, 7, NO_VR), 0);
        x.come(x.say(3, PRECOMMIT, 0, 1, 7, NO_VR), 0);
        x.come(x.say(1, PRECOMMIT, 0, 1, 7, NO_VR), 0);
        Due.is("seat 0 decided 7", x.decided(0, 0, 0), 7);
        x.come(x.say(1, PRECOMMIT, 0, 2, NIL, NO_VR), 2);
        int sent = x.count(2);
        x.come(x.say(3, PRECOMMIT, 0, 2, NIL, NO_VR), 2);
        Due.is("to seat 2 it is right", x.letter(sent + 1, 4), 7);
        Due.is("seat 2 proposed", x.letter(sent + 1, 0), 2);
    }

    private void valuesFromEmptyToNinetyNine() {
        for (int value = 0; value <= 99; value += 99) {
            layAlone();
            jump(0, 1);
            tell(1, PROPOSAL, 0, 1, value, NO_VR);
            dueLast("prevote", PREVOTE, 0, 1, value, NO_VR);
            tellVotes(PREVOTE, 0, 1, value, 1, 2);
            dueLast("precommit", PRECOMMIT, 0, 1, value, NO_VR);
            tellVotes(PRECOMMIT, 0, 1, value, 1, 2);
            Due.is("decided", x.decided(0, 0, 0), value);
        }
        layAlone();
        jump(0, 1);
        tellVotes(PREVOTE, 0, 1, NIL, 1);
        tell(1, PROPOSAL, 0, 1, 0, NO_VR);
        tellVotes(PREVOTE, 0, 1, 0, 2);
        dueSeat("NIL is not EMPTY", 0, 1, 1, NONE, NONE, NONE, NONE);
    }

    // ---- If it is the PROPOSER, it sends a PROPOSAL: VALID's VALUE with its ROUND as VR, if there is one,
    // ---- else the least VALUE that it HOLDS and is RIGHT (EMPTY, if there is none) without VR

    private void proposesTheLeastThatItHolds() {
        int[][] held = {{99}, {99, 1}, {1, 99}, {98, 97, 99}};
        int[] least = {99, 1, 1, 97};
        for (int i = 0; i < held.length; i++) {
            lay(4, 0);
            for (int value : held[i]) {
                x.hold(0, value);
            }
            x.begin();
            Due.is("the least", x.letter(0, 4), least[i]);
            Due.is("without VR", x.letter(0, 5), NO_VR);
        }
    }

    private void proposesEmptyIfNoneIsRight() {
        lay(4, 0);
        Due.is("it holds none", x.begin(), 2);
        Due.is("EMPTY", x.letter(0, 4), 0);
        lay(4, 0);
        x.hold(0, 1);
        x.begin();
        decide(0, 1);
        jump(1, 3);
        Due.is("EMPTY, for 1 is decided", x.letter(x.count(2) - 2, 4), 0);
        lay(4, 0);
        x.begin();
        x.hold(0, 99);
        decide(0, 1);
        jump(1, 3);
        Due.is("99, held meanwhile", x.letter(x.count(2) - 2, 4), 99);
    }

    /** VALID on EMPTY, of round 0, is one all the same. */
    private void proposesWhatIsValidInRoundZero() {
        lay(4, 0);
        x.begin();
        x.hold(0, 1);
        tellVotes(PREVOTE, 0, 0, 0, 1, 2);
        jump(0, 8);
        Due.is("VALID's value", x.letter(x.count(2) - 2, 4), 0);
        Due.is("with its round", x.letter(x.count(2) - 2, 5), 0);
        layAlone();
        x.hold(0, 1);
        jump(0, 8);
        Due.is("no VALID", x.letter(x.count(2) - 2, 4), 1);
        Due.is("no VR", x.letter(x.count(2) - 2, 5), NO_VR);
    }

    // ---- What a SEAT sends by itself comes to it at once; to others it comes when told.
    // ---- LETTERS 0, 1, .. 400 at most (When there are 400, nothing more is sent: what would be is lost.)

    private void whatItSendsComesToItAtOnce() {
        lay(7, 0, 1, 2, 3, 4, 5, 6);
        x.begin();
        Due.is("its own prevote", x.votes(0, PREVOTE, 0, 0, 0), 1);
        for (int seat = 1; seat < 7; seat++) {
            Due.is("to no other", x.votes(seat, PREVOTE, 0, 0, WHATEVER), 0);
            x.come(1, seat);
            Due.is("when told", x.votes(seat, PREVOTE, 0, 0, 0), 1);
        }
    }

    /** Two letters wait that bring seat 0 to round 4, in which it proposes; then others fill up. */
    private void fillAheadOfRound4(int letters) {
        layAlone();
        x.say(2, PRECOMMIT, 0, 4, NIL, 0);
        x.say(3, PRECOMMIT, 0, 4, NIL, 0);
        fillTo(1, letters);
        x.come(2, 0);
        Due.is("as many as before", x.come(3, 0), 400);
    }

    private void lastLetterIsAProposal() {
        fillAheadOfRound4(398);
        Due.is("its proposal", x.letter(398, 1), PROPOSAL);
        Due.is("its prevote", x.letter(399, 1), PREVOTE);
        Due.is("one vote", x.votes(0, PREVOTE, 0, 4, WHATEVER), 1);
        fillAheadOfRound4(399);
        Due.is("its proposal is the last letter", x.letter(399, 1), PROPOSAL);
        Due.is("of seat 0", x.letter(399, 0), 0);
        dueSeat("its prevote is lost, its step taken", 0, 4, 1, NONE, NONE, NONE, NONE, 0);
        Due.is("no vote", x.votes(0, PREVOTE, 0, 4, WHATEVER), 0);
    }

    private void lostProposal() {
        fillAheadOfRound4(400);
        dueSeat("it waits for its own proposal", 0, 4, 0, NONE, NONE, NONE, NONE, 0);
        Due.is("none came", x.letter(399, 0), 1);
        Due.is("nor a vote", x.votes(0, PREVOTE, 0, 4, WHATEVER), 0);
        x.fair(30);
        Due.is("no more letters", x.count(2), 400);
        dueSeat("still there", 0, 4, 0);
    }

    private void lostPrevotes() {
        layAlone();
        int a = x.say(2, PRECOMMIT, 0, 1, NIL, 0);
        int b = x.say(3, PRECOMMIT, 0, 1, NIL, 0);
        int proposal = x.say(1, PROPOSAL, 0, 1, 7, NO_VR);
        int c = x.say(2, PREVOTE, 0, 1, 7, 0);
        int d = x.say(3, PREVOTE, 0, 1, 7, 0);
        int e = x.say(1, PREVOTE, 0, 1, 7, 0);
        fillTo(1, 400);
        x.come(a, 0);
        x.come(b, 0);
        Due.is("the proposal comes", x.come(proposal, 0), 400);
        dueSeat("prevoted, and it is lost", 0, 1, 1, NONE, NONE, NONE, NONE, 1);
        x.come(c, 0);
        x.come(d, 0);
        dueSeat("two are not many: its own does not count", 0, 1, 1, NONE, NONE, NONE, NONE, 1);
        x.come(e, 0);
        dueSeat("three are", 0, 1, 2, 7, 1, 7, 1, 1);
        layAlone();
        jump(0, 1);
        fillTo(1, 400);
        Due.is("timer 0 ends", x.end(0, 0), 400);
        dueSeat("its NIL is lost, its step taken", 0, 1, 1);
        Due.is("no vote for NIL", x.votes(0, PREVOTE, 0, 1, NIL), 0);
    }

    private void lostPrecommits() {
        layAlone();
        int a = x.say(1, PREVOTE, 0, 0, 0, 0);
        int b = x.say(2, PREVOTE, 0, 0, 0, 0);
        int c = x.say(1, PRECOMMIT, 0, 0, 0, 0);
        int d = x.say(2, PRECOMMIT, 0, 0, 0, 0);
        int e = x.say(3, PRECOMMIT, 0, 0, 0, 0);
        fillTo(1, 400);
        x.come(a, 0);
        Due.is("many prevotes", x.come(b, 0), 400);
        dueSeat("locked, though its precommit is lost", 0, 0, 2, 0, 0, 0, 0, 0);
        x.come(c, 0);
        x.come(d, 0);
        dueSeat("two are not many", 0, 0, 2, 0, 0, 0, 0, 0);
        x.come(e, 0);
        dueSeat("three are: decided, without a letter", 1, 0, 0, NONE, NONE, NONE, NONE, 1);
        Due.is("400", x.count(2), 400);
    }

    // ---- (A ROUND above 9 is not started: all stays as it is, the SEAT is STALE, as long as it is at this HEIGHT.)

    /** From a round on, precommits from many set timer 2, and it ends. */
    private void giveUp(int height, int round) {
        tellVotes(PRECOMMIT, height, round, NIL, 1, 2, 3);
        x.end(0, 2);
    }

    private void startsAboveRoundNine() {
        layAlone();
        tellVotes(PRECOMMIT, 0, 8, NIL, 1, 2, 3);
        Due.is("round 8", x.seat(0, 1), 8);
        x.end(0, 2);
        dueSeat("round 9 is started", 0, 9, 0, NONE, NONE, NONE, NONE, 1, 0);
        tell(1, PROPOSAL, 0, 9, 5, NO_VR);
        tellVotes(PREVOTE, 0, 9, 5, 1, 2);
        dueSeat("locked in round 9", 0, 9, 2, 5, 9, 5, 9, 1, 0);
        int sent = x.count(2);
        giveUp(0, 9);
        dueSeat("round 10 is not", 0, 9, 2, 5, 9, 5, 9, 1, 3);
        Due.is("nothing was sent", x.count(2), sent + 3);
        Due.is("timer 2 is not set again", x.end(0, 2), NO);
        tellVotes(PRECOMMIT, 0, 9, 8, 1, 2, 3);
        Due.is("nor by more precommits", x.seat(0, 7), 1);
    }

    private void staleAsLongAsAtThisHeight() {
        layAlone();
        jump(0, 9);
        giveUp(0, 9);
        Due.is("stale", x.seat(0, 8), 3);
        tell(1, PROPOSAL, 0, 9, 5, NO_VR);
        dueLast("it still prevotes", PREVOTE, 0, 9, 5, NO_VR);
        tellVotes(PREVOTE, 0, 9, 5, 1, 2);
        dueSeat("it still locks, and timer 1 is set", 0, 9, 2, 5, 9, 5, 9, 3, 3);
        tellVotes(PRECOMMIT, 0, 9, 5, 1, 2);
        dueSeat("the next height", 1, 0, 0, NONE, NONE, NONE, NONE, 1, 0);
        jump(1, 9);
        Due.is("round 9 of it", x.seat(0, 8), 0);
        giveUp(1, 9);
        Due.is("stale again", x.seat(0, 8), 3);
    }

    private void staleAtTheLastHeight() {
        layAlone();
        for (int height = 0; height < 5; height++) {
            decide(height, 0);
        }
        jump(5, 9);
        giveUp(5, 9);
        Due.is("stale", x.seat(0, 8), 3);
        decide(5, 0);
        dueSeat("done", 6, 0, 0, NONE, NONE, NONE, NONE, 0, 2);
    }

    // ---- (Behind HEIGHT 5 it is DONE, ROUND and STEP 0, and does nothing any more. ...)

    private void behindTheLastHeight() {
        layAlone();
        for (int height = 0; height < 5; height++) {
            decide(height, height + 1);
        }
        dueSeat("height 5 is not done", 5, 0, 0, NONE, NONE, NONE, NONE, 1, 0);
        jump(5, 3);
        dueSeat("it proposes at height 5", 5, 3, 1);
        tellVotes(PREVOTE, 5, 3, 0, 1, 2);
        dueSeat("locked", 5, 3, 2, 0, 3, 0, 3);
        int sent = x.count(2);
        tellVotes(PRECOMMIT, 5, 3, 0, 1, 2);
        dueSeat("done", 6, 0, 0, NONE, NONE, NONE, NONE, 0, 2);
        Due.is("it sends nothing", x.count(2), sent + 2);
        tellVotes(PRECOMMIT, 5, 9, NIL, 1, 2, 3);
        dueSeat("nothing any more", 6, 0, 0, NONE, NONE, NONE, NONE, 0, 2);
        Due.is("height 5 decided", x.decided(0, 5, 1), 3);
    }

    // ---- 2 LETTERS of a ROUND above its own from SOME SEATS: it STARTS the greatest such ROUND.

    private void oneRoundAbove() {
        layAlone();
        for (int round = 1; round <= 9; round++) {
            tell(2, PRECOMMIT, 0, round, NIL, 0);
            Due.is("one seat", x.seat(0, 1), round - 1);
            tell(3, PRECOMMIT, 0, round, NIL, 0);
            Due.is("one round above", x.seat(0, 1), round);
        }
    }

    private void neverItsOwnRoundNorBelow() {
        layAlone();
        jump(0, 5);
        x.end(0, 0);
        dueSeat("prevoted NIL", 0, 5, 1);
        int sent = x.count(2);
        tellVotes(PRECOMMIT, 0, 5, NIL, 1, 2);
        tellVotes(PRECOMMIT, 0, 4, NIL, 1, 2);
        dueSeat("its own round is not started again, nor one below", 0, 5, 1);
        Due.is("nothing was sent", x.count(2), sent + 4);
    }

    // ---- 4 a PROPOSAL of v of its ROUND with a VR below that ... LOCKED on none, in a ROUND not above VR, or on v

    private void vrJustBelowItsRound() {
        layAlone();
        tellVotes(PREVOTE, 0, 8, 7, 1, 2, 3);
        tellVotes(PRECOMMIT, 0, 9, NIL, 2, 3);
        tellVotes(PREVOTE, 0, 9, 7, 1, 2, 3);
        tell(1, PROPOSAL, 0, 9, 7, 9);
        dueSeat("VR is its round, of which many came", 0, 9, 0);
        tellVotes(PRECOMMIT, 0, 9, NIL, 1);
        dueSeat("still not prevoted", 0, 9, 0);
        tell(1, PROPOSAL, 0, 9, 7, 8);
        Due.is("VR is one below: prevoted", x.letter(x.count(2) - 2, 1), PREVOTE);
        dueLast("and by many precommitted at once", PRECOMMIT, 0, 9, 7, NO_VR);
        layAlone();
        tellVotes(PREVOTE, 0, 0, 7, 1, 2, 3);
        dueSeat("many for another value, unproposed", 0, 0, 1, NONE, NONE, NONE, NONE, 2);
        tellVotes(PRECOMMIT, 0, 1, NIL, 2, 3);
        tell(1, PROPOSAL, 0, 1, 7, 0);
        dueLast("VR 0", PREVOTE, 0, 1, 7, NO_VR);
    }

    /** Locked on 5 in round 2, asked for 4 in round 6 with a VR of the rounds about. */
    private void lockedJustAboveVr() {
        for (int vr = 1; vr <= 3; vr++) {
            layAlone();
            jump(0, 2);
            tell(2, PROPOSAL, 0, 2, 5, NO_VR);
            tellVotes(PREVOTE, 0, 2, 5, 1, 2);
            dueSeat("locked", 0, 2, 2, 5, 2, 5, 2);
            tellVotes(PREVOTE, 0, vr, 4, 1, 2, 3);
            jump(0, 6);
            tell(2, PROPOSAL, 0, 6, 4, vr);
            dueLast("VR " + vr, PREVOTE, 0, 6, vr < 2 ? NIL : 4, NO_VR);
            dueSeat("its lock stays", 0, 6, 1, 5, 2, 5, 2);
        }
    }

    /** Locked on EMPTY, in round 0: that is not none. */
    private void lockedInRoundZero() {
        layAlone();
        tellVotes(PREVOTE, 0, 0, 0, 1, 2);
        dueSeat("locked", 0, 0, 2, 0, 0, 0, 0);
        tellVotes(PRECOMMIT, 0, 1, NIL, 2, 3);
        tell(1, PROPOSAL, 0, 1, 99, NO_VR);
        dueLast("rule 3", PREVOTE, 0, 1, NIL, NO_VR);
        tellVotes(PREVOTE, 0, 0, 99, 1, 2, 3);
        tellVotes(PRECOMMIT, 0, 2, NIL, 1, 3);
        tell(2, PROPOSAL, 0, 2, 99, 0);
        dueLast("rule 4: round 0 is not above VR 0", PREVOTE, 0, 2, 99, NO_VR);
    }

    // ---- 5, 7, 8: not yet done in this ROUND

    private void onceInEachRound() {
        layAlone();
        for (int round = 1; round <= 2; round++) {
            tellVotes(PRECOMMIT, 0, round, NIL, 2, 3);
            x.end(0, 0);
            tellVotes(PREVOTE, 0, round, round, 1, 2);
            dueSeat("timer 1 in round " + round, 0, round, 1);
            Due.is("it is set", x.seat(0, 7) & 2, 2);
            tellVotes(PREVOTE, 0, round, 50 + round, 3);
            tell(round, PROPOSAL, 0, round, round, NO_VR);
            dueSeat("two for it are not many", 0, round, 1);
            tellVotes(PREVOTE, 0, round, round, 3);
            dueSeat("locked in round " + round, 0, round, 2, round, round, round, round);
            tellVotes(PRECOMMIT, 0, round, NIL, 1);
            Due.is("timer 2 is set", x.seat(0, 7) & 4, 4);
            x.end(0, 1);
            tellVotes(PREVOTE, 0, round, NIL, 1);
            Due.is("timer 1 is not set again", x.seat(0, 7) & 2, 0);
        }
        layAlone();
        tellVotes(PREVOTE, 0, 0, NIL, 1, 2);
        Due.is("timer 1", x.seat(0, 7), 2);
        x.end(0, 1);
        tellVotes(PREVOTE, 0, 0, 5, 3);
        Due.is("not in step PRECOMMIT", x.seat(0, 7), 0);
    }

    // ---- A TIMER that ends is not set any more. It counts if it is of the HEIGHT and ROUND there are

    private void timersOfTheHeightAndRound() {
        layAlone();
        jump(0, 1);
        jump(0, 4);
        dueSeat("timers 0 of round 1, and 1 of round 4, in which it proposed", 0, 4, 1, NONE, NONE, NONE, NONE, 3);
        int sent = x.count(2);
        Due.is("it does not count", x.end(0, 0), sent);
        Due.is("but ended", x.end(0, 0), NO);
        x.end(0, 1);
        giveUp(0, 4);
        dueSeat("timer 2 of round 4 counted", 0, 5, 0);
        tellVotes(PRECOMMIT, 0, 5, NIL, 1, 2, 3);
        jump(0, 6);
        x.end(0, 2);
        dueSeat("timer 2 of round 5 did not", 0, 6, 0);
        decide(0, 0);
        dueSeat("another height: timer 0 alone, of then", 1, 0, 0, NONE, NONE, NONE, NONE, 1);
        sent = x.count(2);
        Due.is("it counts", x.end(0, 0), sent + 1);
        dueLast("NIL", PREVOTE, 1, 0, NIL, NO_VR);
    }

    // ---- a TIMER that is set or not (0 to 2; set anew it is of the HEIGHT and ROUND then)

    private void setAnewIsOfThen() {
        layAlone();
        jump(0, 1);
        jump(0, 2);
        Due.is("timer 0, set twice", x.seat(0, 7), 1);
        int sent = x.count(2);
        Due.is("it is of round 2", x.end(0, 0), sent + 1);
        dueSeat("prevoted; timer 1", 0, 2, 1, NONE, NONE, NONE, NONE, 2);
        jump(0, 3);
        Due.is("timers 0 and 1", x.seat(0, 7), 3);
        Due.is("timer 0 of round 3", x.end(0, 0), sent + 4);
        Due.is("timer 1, set anew in round 3", x.end(0, 1), sent + 5);
        dueLast("NIL", PRECOMMIT, 0, 3, NIL, NO_VR);
    }

    // ---- THE LINK at HEIGHT h of a SEAT: (THE LINK at h - 1, times 1000003, and the VALUE that it decided, and 1)
    // ---- modulo 2147483648; 7 ahead of HEIGHT 0.

    private void linksWrapAround() {
        int[][] chains = {{0, 0, 0, 0, 0, 0}, {99, 98, 97, 96, 95, 94}, {0, 99, 0, 1, 2, 0}, {1, 2, 3, 4, 5, 6}};
        for (int[] values : chains) {
            layAlone();
            BigInteger link = BigInteger.valueOf(7);
            for (int height = 0; height < 6; height++) {
                decide(height, values[height]);
                link = link.multiply(BigInteger.valueOf(1000003)).add(BigInteger.valueOf(values[height] + 1))
                    .mod(BigInteger.TWO.pow(31));
                Due.is("link " + height, x.decided(0, height, 2), link.intValueExact());
            }
        }
        layAlone();
        decide(0, 99);
        decide(1, 0);
        Due.is("7 * 1000003 + 100", x.decided(0, 0, 2), 7000121);
        Due.is("(7000121 * 1000003 + 1) modulo 2147483648", x.decided(0, 1, 2), 1492791532);
    }

    // ---- A FAIR TURN: all LETTERS come, by numbers, to all SEATS, by numbers, to which they did not (not FALSE; those
    // ---- sent meanwhile, too); if there was none: all TIMERS end, by SEATS, then KINDS, each that is set as its turn
    // ---- comes. It does nothing, if there was neither.

    private void fairTurnBringsWhatIsSentMeanwhile() {
        lay(4, 0, 1, 2);
        x.begin();
        Due.is("two letters, and those that they bring about", x.fair(1), 1);
        Due.is("all came", x.count(3), 0);
        Due.is("timer 0 is still set: no timer ended", x.seat(1, 7) & 1, 1);
        Due.is("letter 2: seat 1 first", x.letter(2, 0), 1);
        Due.is("letter 3: then seat 2", x.letter(3, 0), 2);
        lay(4, 0);
        x.begin();
        x.say(1, PROPOSAL, 0, 1, 7, NO_VR);
        fillTo(1, 400);
        Due.is("400 letters", x.fair(1), 1);
        Due.is("all came", x.count(3), 0);
        Due.is("nothing is left", x.fair(1), 0);
    }

    private void fairTurnEndsWhatIsSetAsItsTurnComes() {
        lay(4, 2);
        x.begin();
        x.come(x.say(0, PRECOMMIT, 0, 0, 5, 0), 2);
        x.come(x.say(1, PRECOMMIT, 0, 0, 5, 0), 2);
        x.come(x.say(3, PRECOMMIT, 0, 0, NIL, 0), 2);
        x.come(x.say(0, PREVOTE, 0, 0, NIL, 0), 2);
        x.come(x.say(1, PREVOTE, 0, 0, 6, 0), 2);
        Due.is("timers 0 and 2", x.seat(2, 7), 5);
        Due.is("one turn", x.fair(1), 1);
        Due.is("timer 0: NIL; timer 1, set by that: NIL; timer 2: round 1", x.seat(2, 1), 1);
        Due.is("the prevote", x.letter(5, 1), PREVOTE);
        Due.is("the precommit", x.letter(6, 1), PRECOMMIT);
        Due.is("timer 0 of round 1, set behind its turn", x.seat(2, 7), 1);
        Due.is("the next turn", x.fair(1), 1);
        Due.is("none is left", x.seat(2, 7), 0);
        Due.is("neither letters nor timers", x.fair(1), 0);
    }
}
