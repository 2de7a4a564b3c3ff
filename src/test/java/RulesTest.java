/** The rules that a seat follows, one by one; mostly seat 0 of four alone, against three false ones. */
public final class RulesTest extends Scene {
    public static void main(String[] args) {
        RulesTest t = new RulesTest();
        t.decides();
        t.decidesAPastRound();
        t.decidesOnlyForTheProposer();
        t.decidesOnlyWhatIsRight();
        t.decidesTheLeastRoundThenLetter();
        t.decidesAgainAtOnce();
        t.decidesAheadOfCatchingUp();
        t.decidesItsOwnProposalAtOnce();
        t.decidesByItsOwnPrecommit();
        t.isDone();
        t.catchesUp();
        t.catchesUpToTheGreatest();
        t.catchesUpOfSeven();
        t.catchesUpByLettersOfEveryKind();
        t.prevotesFreshProposals();
        t.prevotesTheFirstLetter();
        t.prevotesFreshAheadOfOld();
        t.prevotesOldProposals();
        t.prevotesOldOnlyOfARoundBelow();
        t.locks();
        t.locksOnceInARound();
        t.locksTheFirstLetter();
        t.locksAheadOfGivingUp();
        t.givesUp();
        t.proposesWhatIsValid();
        t.proposesTheLeastRightValue();
        t.timersOfAnotherRound();
        t.timersAreGoneBehindAHeight();
        t.timersAreSetAnew();
        t.staleSeat();
        t.lostLetters();
        Due.finish("RulesTest");
    }

    private void decides() {
        layAlone();
        tellVotes(PRECOMMIT, 0, 0, 0, 1, 2);
        tellVotes(PRECOMMIT, 0, 0, 0, 2);
        dueSeat("two unlike seats are not many", 0, 0, 1);
        tellVotes(PRECOMMIT, 0, 0, 0, 3);
        dueSeat("decided", 1, 0, 0, NONE, NONE, NONE, NONE, 1, 0);
        Due.is("decided value", x.decided(0, 0, 0), 0);
        Due.is("decided round", x.decided(0, 0, 1), 0);
    }

    private void decidesAPastRound() {
        layAlone();
        jump(0, 2);
        tellVotes(PRECOMMIT, 0, 0, 0, 1, 2, 3);
        Due.is("past round decided", x.decided(0, 0, 0), 0);
        Due.is("in round 0", x.decided(0, 0, 1), 0);
        dueSeat("at the next height", 1, 0, 0);
    }

    private void decidesOnlyForTheProposer() {
        layAlone();
        tell(1, PROPOSAL, 0, 0, 5, NO_VR);
        tellVotes(PRECOMMIT, 0, 0, 5, 1, 2, 3);
        dueSeat("a proposal not of the proposer", 0, 0, 1);
        tell(1, PROPOSAL, 0, 1, 5, NO_VR);
        tellVotes(PRECOMMIT, 0, 1, 5, 1, 2, 3);
        dueSeat("a proposal of the proposer", 1, 0, 0);
        Due.is("decided in round 1", x.decided(0, 0, 1), 1);
        tell(2, PROPOSAL, 1, 1, 6, 9);
        tellVotes(PRECOMMIT, 1, 1, 6, 1, 2, 3);
        Due.is("whatever its VR", x.decided(0, 1, 0), 6);
    }

    private void decidesOnlyWhatIsRight() {
        lay(4, 0);
        x.hold(0, 5);
        x.begin();
        tellVotes(PRECOMMIT, 0, 0, 5, 1, 2, 3);
        Due.is("decided 5", x.decided(0, 0, 0), 5);
        tell(1, PROPOSAL, 1, 0, 5, NO_VR);
        dueLast("5 is not right any more", PREVOTE, 1, 0, NIL, NO_VR);
        tellVotes(PREVOTE, 1, 0, 5, 1, 2, 3);
        dueSeat("and not locked on", 1, 0, 1, NONE, NONE, NONE, NONE);
        tellVotes(PRECOMMIT, 1, 0, 5, 1, 2, 3);
        Due.is("and not decided", x.decided(0, 1, 0), NONE);
        tell(2, PROPOSAL, 1, 1, 0, NO_VR);
        tellVotes(PRECOMMIT, 1, 1, 0, 1, 2, 3);
        tell(2, PROPOSAL, 2, 0, 0, NO_VR);
        tellVotes(PRECOMMIT, 2, 0, 0, 1, 2, 3);
        Due.is("EMPTY is right again", x.decided(0, 2, 0), 0);
    }

    private void decidesTheLeastRoundThenLetter() {
        layAlone();
        tell(2, PROPOSAL, 1, 1, 8, NO_VR);
        tellVotes(PRECOMMIT, 1, 1, 8, 1, 2, 3);
        int first = x.say(1, PROPOSAL, 1, 0, 9, NO_VR);
        int second = x.say(1, PROPOSAL, 1, 0, 6, NO_VR);
        x.come(second, 0);
        x.come(first, 0);
        tellVotes(PRECOMMIT, 1, 0, 6, 1, 2, 3);
        tellVotes(PRECOMMIT, 1, 0, 9, 1, 2, 3);
        dueSeat("letters of height 1 wait", 0, 0, 1);
        tellVotes(PRECOMMIT, 0, 0, 0, 1, 2, 3);
        dueSeat("two heights at once", 2, 0, 0);
        Due.is("least round, first letter", x.decided(0, 1, 0), 9);
        Due.is("least round", x.decided(0, 1, 1), 0);
    }

    /** Behind a decision the rules go from the first again: what waits is decided before it is prevoted. */
    private void decidesAgainAtOnce() {
        layAlone();
        for (int height = 5; height >= 1; height--) {
            int proposer = height == 4 ? 1 : height % 4;
            tellVotes(PRECOMMIT, height, height == 4 ? 1 : 0, 0, 3, 2, 1);
            tell(proposer, PROPOSAL, height, height == 4 ? 1 : 0, 0, NO_VR);
        }
        tellVotes(PRECOMMIT, 0, 0, 0, 1, 2);
        dueSeat("all waits", 0, 0, 1);
        int sent = x.count(2);
        tellVotes(PRECOMMIT, 0, 0, 0, 3);
        dueSeat("all is decided", 6, 0, 0, NONE, NONE, NONE, NONE, 0, 2);
        Due.is("height 4 in round 1", x.decided(0, 4, 1), 1);
        Due.is("but for its proposal at height 4 it sent nothing", x.count(2), sent + 2);
        dueLast("that proposal", PROPOSAL, 4, 0, 0, NO_VR);
    }

    private void decidesAheadOfCatchingUp() {
        layAlone();
        tellVotes(PREVOTE, 1, 3, NIL, 1, 2);
        tell(1, PROPOSAL, 1, 0, 4, NO_VR);
        tellVotes(PRECOMMIT, 1, 0, 4, 1, 2, 3);
        int sent = x.count(2);
        tellVotes(PRECOMMIT, 0, 0, 0, 1, 2, 3);
        dueSeat("both heights", 2, 0, 0);
        Due.is("it never started round 3, where it proposes", x.count(2), sent + 3);
    }

    private void decidesItsOwnProposalAtOnce() {
        layAlone();
        tellVotes(PRECOMMIT, 1, 3, 0, 1, 2, 3);
        int sent = x.count(2);
        tellVotes(PRECOMMIT, 0, 0, 0, 1, 2, 3);
        dueSeat("height 1 decided in the round to which it went", 2, 0, 0, NONE, NONE, NONE, NONE, 1);
        Due.is("in round 3", x.decided(0, 1, 1), 3);
        Due.is("it sent one letter", x.count(2), sent + 4);
        dueLast("its proposal, not prevoted", PROPOSAL, 1, 3, 0, NO_VR);
    }

    private void decidesByItsOwnPrecommit() {
        layAlone();
        tellVotes(PRECOMMIT, 0, 0, NIL, 3);
        tellVotes(PRECOMMIT, 0, 0, 0, 1, 2);
        dueSeat("timer 2 is set already", 0, 0, 1, NONE, NONE, NONE, NONE, 4);
        tellVotes(PREVOTE, 0, 0, 0, 1, 2);
        dueSeat("its own is the third", 1, 0, 0, NONE, NONE, NONE, NONE, 1);
        dueLast("precommit", PRECOMMIT, 0, 0, 0, NO_VR);
    }

    private void isDone() {
        layAlone();
        for (int height = 0; height < 6; height++) {
            int round = (4 - height % 4) % 4 + 1;
            tell(1, PROPOSAL, height, round, 0, NO_VR);
            tellVotes(PRECOMMIT, height, round, 0, 1, 2, 3);
            Due.is("decided in a round of seat 1", x.decided(0, height, 1), round);
        }
        dueSeat("done", 6, 0, 0, NONE, NONE, NONE, NONE, 0, 2, 0);
        int sent = x.count(2);
        Due.is("a letter still comes", x.come(x.say(1, PREVOTE, 0, 0, 0, 0), 0), sent + 1);
        tellVotes(PREVOTE, 5, 9, 0, 1, 2, 3);
        dueSeat("still done", 6, 0, 0, NONE, NONE, NONE, NONE, 0, 2, 0);
    }

    private void catchesUp() {
        layAlone();
        tellVotes(PREVOTE, 0, 3, 5, 1, 1);
        tellVotes(PRECOMMIT, 0, 3, 5, 1);
        dueSeat("one seat is not some", 0, 0, 1);
        tellVotes(PRECOMMIT, 0, 4, 5, 2);
        tellVotes(PRECOMMIT, 1, 3, 5, 3);
        dueSeat("of another round, of another height", 0, 0, 1);
        tellVotes(PRECOMMIT, 0, 3, NIL, 2);
        dueSeat("round 3", 0, 3, 0, NONE, NONE, NONE, NONE, 1);
        tellVotes(PREVOTE, 0, 2, 5, 1, 2, 3);
        dueSeat("never back", 0, 3, 0);
    }

    private void catchesUpToTheGreatest() {
        layAlone();
        tellVotes(PREVOTE, 1, 2, 5, 1, 2);
        tellVotes(PREVOTE, 1, 6, 5, 1, 3);
        tellVotes(PREVOTE, 1, 4, 5, 1, 2, 3);
        tellVotes(PREVOTE, 1, 9, 5, 1);
        tellVotes(PRECOMMIT, 0, 0, 0, 1, 2, 3);
        dueSeat("the greatest with some", 1, 6, 0);
    }

    private void catchesUpOfSeven() {
        lay(7, 0);
        x.begin();
        tellVotes(PREVOTE, 0, 1, 5, 2, 3);
        dueSeat("two of seven are not some", 0, 0, 1);
        tellVotes(PREVOTE, 0, 1, 5, 4);
        dueSeat("three are", 0, 1, 0);
    }

    /** Rule 2 speaks of letters: whose proposal counts matters only where a rule asks for a proposal. */
    private void catchesUpByLettersOfEveryKind() {
        layAlone();
        tell(1, PROPOSAL, 0, 3, 5, NO_VR);
        tell(1, PROPOSAL, 0, 3, 6, 2);
        tell(1, PRECOMMIT, 0, 3, 5, NO_VR);
        dueSeat("one seat is not some", 0, 0, 1);
        tell(2, PREVOTE, 0, 3, 5, NO_VR);
        dueSeat("a proposal not of the proposer, and a prevote", 0, 3, 0, NONE, NONE, NONE, NONE, 1);
        int sent = x.count(2);
        tell(3, PROPOSAL, 0, 3, 7, NO_VR);
        Due.is("the proposer's alone is prevoted", x.count(2), sent + 2);
        dueLast("prevote", PREVOTE, 0, 3, 7, NO_VR);
        layAlone();
        tell(1, PROPOSAL, 0, 3, 5, NO_VR);
        tell(2, PROPOSAL, 0, 3, 5, NO_VR);
        dueSeat("two proposals, neither of the proposer", 0, 3, 0, NONE, NONE, NONE, NONE, 1);
        layAlone();
        tell(1, PROPOSAL, 0, 3, 5, NO_VR);
        tell(3, PROPOSAL, 0, 3, 5, NO_VR);
        dueSeat("two proposals, one of the proposer, at once prevoted", 0, 3, 1, NONE, NONE, NONE, NONE, 1);
    }

    private void lockOnEmpty() {
        layAlone();
        tellVotes(PREVOTE, 0, 0, 0, 1, 2);
        dueLast("precommit", PRECOMMIT, 0, 0, 0, NO_VR);
        dueSeat("locked", 0, 0, 2, 0, 0, 0, 0);
    }

    private void prevotesFreshProposals() {
        lockOnEmpty();
        jump(0, 1);
        int sent = x.count(2);
        tell(1, PROPOSAL, 0, 1, 4, NO_VR);
        Due.is("one prevote", x.count(2), sent + 2);
        dueLast("locked on another value", PREVOTE, 0, 1, NIL, NO_VR);
        dueSeat("still locked", 0, 1, 1, 0, 0, 0, 0);
        jump(0, 2);
        tell(2, PROPOSAL, 0, 2, 0, NO_VR);
        dueLast("locked on that value", PREVOTE, 0, 2, 0, NO_VR);
        layAlone();
        jump(0, 1);
        tell(1, PROPOSAL, 0, 1, 4, NO_VR);
        dueLast("not locked", PREVOTE, 0, 1, 4, NO_VR);
        sent = x.count(2);
        tell(1, PROPOSAL, 0, 1, 5, NO_VR);
        Due.is("prevoted already", x.count(2), sent + 1);
    }

    private void prevotesTheFirstLetter() {
        layAlone();
        int first = x.say(1, PROPOSAL, 0, 1, 9, NO_VR);
        int second = x.say(1, PROPOSAL, 0, 1, 4, NO_VR);
        x.come(second, 0);
        x.come(first, 0);
        tellVotes(PREVOTE, 0, 1, NIL, 2);
        dueLast("the first letter, not that which came first", PREVOTE, 0, 1, 9, NO_VR);
    }

    private void prevotesFreshAheadOfOld() {
        layAlone();
        tellVotes(PREVOTE, 0, 0, 7, 1, 2, 3);
        tell(1, PROPOSAL, 0, 1, 7, 0);
        tell(1, PROPOSAL, 0, 1, 8, NO_VR);
        tellVotes(PREVOTE, 0, 1, NIL, 2);
        dueLast("rule 3 ahead of rule 4", PREVOTE, 0, 1, 8, NO_VR);
    }

    private void prevotesOldProposals() {
        lockOnEmpty();
        tellVotes(PREVOTE, 0, 1, 4, 1, 2);
        jump(0, 3);
        int sent = x.count(2);
        tell(3, PROPOSAL, 0, 3, 4, 1);
        Due.is("two prevotes of VR are not many", x.count(2), sent + 1);
        tellVotes(PREVOTE, 0, 1, 4, 3);
        dueLast("locked in a round not above VR", PREVOTE, 0, 3, 4, NO_VR);
        lockOnEmpty();
        tellVotes(PREVOTE, 0, 0, 4, 1, 2, 3);
        jump(0, 1);
        tell(1, PROPOSAL, 0, 1, 4, 0);
        dueLast("locked in VR itself", PREVOTE, 0, 1, 4, NO_VR);
        layAlone();
        jump(0, 1);
        tell(1, PROPOSAL, 0, 1, 5, NO_VR);
        tellVotes(PRECOMMIT, 0, 1, 5, 1, 2, 3);
        tellVotes(PREVOTE, 1, 0, 5, 1, 2, 3);
        jump(1, 1);
        tell(2, PROPOSAL, 1, 1, 5, 0);
        dueLast("not right any more", PREVOTE, 1, 1, NIL, NO_VR);
        lockInRound2();
        tell(3, PROPOSAL, 0, 3, 4, 1);
        dueLast("locked in a round above VR", PREVOTE, 0, 3, NIL, NO_VR);
        lockInRound2();
        tell(3, PROPOSAL, 0, 3, 5, 0);
        dueLast("above VR, but on that value", PREVOTE, 0, 3, 5, NO_VR);
    }

    /** Seat 0 is locked on 5 in round 2 and at round 3; many prevoted 4 in round 1, and 5 in round 0. */
    private void lockInRound2() {
        layAlone();
        tellVotes(PREVOTE, 0, 0, 5, 1, 2, 3);
        tellVotes(PREVOTE, 0, 1, 4, 1, 2, 3);
        tell(2, PROPOSAL, 0, 2, 5, NO_VR);
        tellVotes(PREVOTE, 0, 2, 5, 1, 3);
        dueSeat("locked in round 2", 0, 2, 2, 5, 2, 5, 2);
        jump(0, 3);
    }

    private void prevotesOldOnlyOfARoundBelow() {
        layAlone();
        tellVotes(PREVOTE, 0, 3, 4, 1, 2, 3);
        int sent = x.count(2);
        tell(3, PROPOSAL, 0, 3, 4, 3);
        Due.is("VR is its own round", x.count(2), sent + 1);
        tellVotes(PREVOTE, 0, 9, 4, 1);
        tell(3, PROPOSAL, 0, 3, 4, 9);
        dueSeat("VR above its round", 0, 3, 0);
        x.end(0, 0);
        dueSeat("prevoted NIL, but rule 5 takes whatever VR", 0, 3, 2, 4, 3, 4, 3);
    }

    private void locks() {
        layAlone();
        tellVotes(PREVOTE, 0, 0, 0, 1);
        dueSeat("two are not many", 0, 0, 1, NONE, NONE, NONE, NONE, 0);
        tellVotes(PREVOTE, 0, 0, 0, 1);
        dueSeat("nor is one of them twice", 0, 0, 1, NONE, NONE, NONE, NONE, 0);
        tellVotes(PREVOTE, 0, 0, 0, 2);
        dueLast("precommit", PRECOMMIT, 0, 0, 0, NO_VR);
        dueSeat("locked, and no timer", 0, 0, 2, 0, 0, 0, 0, 0);
        jump(0, 1);
        tellVotes(PREVOTE, 0, 1, 4, 1, 2, 3);
        tell(1, PROPOSAL, 0, 1, 4, NO_VR);
        dueSeat("prevoted NIL, and yet locked anew", 0, 1, 2, 4, 1, 4, 1);
    }

    private void locksOnceInARound() {
        layAlone();
        jump(0, 1);
        tell(1, PROPOSAL, 0, 1, 6, NO_VR);
        tell(1, PROPOSAL, 0, 1, 5, NO_VR);
        tellVotes(PREVOTE, 0, 1, 5, 1, 2, 3);
        dueSeat("locked on 5", 0, 1, 2, 5, 1, 5, 1);
        int sent = x.count(2);
        tellVotes(PREVOTE, 0, 1, 6, 1, 2);
        dueSeat("not done again", 0, 1, 2, 5, 1, 5, 1);
        Due.is("nothing more was sent", x.count(2), sent + 2);
    }

    private void locksTheFirstLetter() {
        layAlone();
        tellVotes(PREVOTE, 0, 1, 5, 1, 2, 3);
        tellVotes(PREVOTE, 0, 1, 6, 1, 2, 3);
        int first = x.say(1, PROPOSAL, 0, 1, 6, 7);
        int second = x.say(1, PROPOSAL, 0, 1, 5, 7);
        x.come(second, 0);
        x.come(first, 0);
        dueSeat("no VR below: not prevoted", 0, 1, 0);
        x.end(0, 0);
        dueSeat("the first letter", 0, 1, 2, 6, 1, 6, 1);
    }

    private void locksAheadOfGivingUp() {
        layAlone();
        tellVotes(PREVOTE, 0, 1, NIL, 1, 2, 3);
        tellVotes(PREVOTE, 0, 1, 5, 1, 2, 3);
        tell(1, PROPOSAL, 0, 1, 5, NO_VR);
        dueSeat("many for 5, and many for NIL", 0, 1, 2, 5, 1, 5, 1);
        dueLast("rule 5 ahead of rule 6", PRECOMMIT, 0, 1, 5, NO_VR);
    }

    private void givesUp() {
        layAlone();
        jump(0, 1);
        tell(1, PROPOSAL, 0, 1, 5, NO_VR);
        tellVotes(PREVOTE, 0, 1, NIL, 1, 2);
        dueSeat("two NIL are not many, yet many prevoted", 0, 1, 1, NONE, NONE, NONE, NONE, 3);
        tellVotes(PREVOTE, 0, 1, NIL, 3);
        dueLast("precommit NIL", PRECOMMIT, 0, 1, NIL, NO_VR);
        dueSeat("given up", 0, 1, 2, NONE, NONE, NONE, NONE, 3);
        int sent = x.count(2);
        Due.is("timer 1 finds nothing to do", x.end(0, 1), sent);
        dueSeat("timer 0 alone is left", 0, 1, 2, NONE, NONE, NONE, NONE, 1);
    }

    private void proposesWhatIsValid() {
        layAlone();
        tellVotes(PREVOTE, 0, 0, NIL, 1, 2);
        dueSeat("timer 1", 0, 0, 1, NONE, NONE, NONE, NONE, 2);
        Due.is("timer 1 ends", x.end(0, 1), 5);
        dueLast("precommit NIL", PRECOMMIT, 0, 0, NIL, NO_VR);
        tellVotes(PREVOTE, 0, 0, 0, 1, 2);
        dueSeat("valid, not locked", 0, 0, 2, NONE, NONE, 0, 0, 0);
        Due.is("nothing sent", x.count(2), 7);
        x.hold(0, 3);
        jump(0, 4);
        Due.is("proposed", x.count(2), 11);
        Due.is("kind", x.letter(9, 1), PROPOSAL);
        Due.is("round", x.letter(9, 3), 4);
        Due.is("value", x.letter(9, 4), 0);
        Due.is("VR", x.letter(9, 5), 0);
        dueLast("and prevoted by rule 4", PREVOTE, 0, 4, 0, NO_VR);
    }

    private void proposesTheLeastRightValue() {
        lay(4, 0);
        x.hold(0, 7);
        x.hold(0, 5);
        x.begin();
        Due.is("the least", x.letter(0, 4), 5);
        tellVotes(PRECOMMIT, 0, 0, 5, 1, 2, 3);
        tellVotes(PREVOTE, 1, 3, NIL, 1, 2);
        Due.is("5 is not right", x.letter(x.count(2) - 2, 4), 7);
        Due.is("no VR", x.letter(x.count(2) - 2, 5), NO_VR);
        tellVotes(PRECOMMIT, 1, 3, 7, 1, 2, 3);
        tellVotes(PREVOTE, 2, 2, NIL, 1, 2);
        Due.is("none is right", x.letter(x.count(2) - 2, 4), 0);
    }

    private void timersOfAnotherRound() {
        lay(4, 1);
        x.begin();
        Due.is("timer 0", x.seat(1, 7), 1);
        x.come(x.say(2, PREVOTE, 0, 1, NIL, 0), 1);
        x.come(x.say(3, PREVOTE, 0, 1, NIL, 0), 1);
        Due.is("round 1, where it proposes", x.seat(1, 1), 1);
        Due.is("timers 0 of round 0, and 1", x.seat(1, 7), 3);
        int sent = x.count(2);
        Due.is("timer 0 does not count", x.end(1, 0), sent);
        Due.is("it is not set any more", x.seat(1, 7), 2);
        layAlone();
        tellVotes(PRECOMMIT, 0, 0, NIL, 1, 2, 3);
        dueSeat("timer 2", 0, 0, 1, NONE, NONE, NONE, NONE, 4);
        jump(0, 1);
        dueSeat("timers 2 of round 0, and 0", 0, 1, 0, NONE, NONE, NONE, NONE, 5);
        x.end(0, 2);
        dueSeat("timer 2 does not count", 0, 1, 0, NONE, NONE, NONE, NONE, 1);
    }

    private void timersAreGoneBehindAHeight() {
        layAlone();
        tellVotes(PREVOTE, 0, 0, NIL, 1, 2);
        tellVotes(PRECOMMIT, 0, 0, 7, 1);
        tellVotes(PRECOMMIT, 0, 0, 0, 1, 2);
        tellVotes(PRECOMMIT, 0, 0, NIL, 3);
        dueSeat("timers 1 and 2", 0, 0, 1, NONE, NONE, NONE, NONE, 6);
        tellVotes(PRECOMMIT, 0, 0, 0, 3);
        dueSeat("timer 0 of the new height", 1, 0, 0, NONE, NONE, NONE, NONE, 1);
        Due.is("timer 2 is not set", x.end(0, 2), -2);
    }

    private void timersAreSetAnew() {
        layAlone();
        tellVotes(PRECOMMIT, 0, 0, NIL, 1, 2, 3);
        tellVotes(PRECOMMIT, 0, 1, NIL, 1, 2);
        dueSeat("round 1", 0, 1, 0, NONE, NONE, NONE, NONE, 5);
        tellVotes(PRECOMMIT, 0, 1, NIL, 3);
        x.end(0, 2);
        dueSeat("timer 2 was of round 1 by then", 0, 2, 0, NONE, NONE, NONE, NONE, 1);
        tellVotes(PRECOMMIT, 0, 2, NIL, 1, 2, 3);
        dueSeat("once in round 2", 0, 2, 0, NONE, NONE, NONE, NONE, 5);
        jump(0, 3);
        x.end(0, 2);
        tellVotes(PRECOMMIT, 0, 2, 9, 1, 2, 3);
        dueSeat("not of a round behind", 0, 3, 0, NONE, NONE, NONE, NONE, 1);
    }

    private void staleSeat() {
        layAlone();
        jump(0, 9);
        tellVotes(PRECOMMIT, 0, 9, NIL, 1, 2, 3);
        dueSeat("round 9", 0, 9, 0, NONE, NONE, NONE, NONE, 5, 0);
        int sent = x.count(2);
        Due.is("timer 2", x.end(0, 2), sent);
        dueSeat("stale", 0, 9, 0, NONE, NONE, NONE, NONE, 1, 3);
        Due.is("all else as it is", x.end(0, 0), sent + 1);
        dueSeat("the rules go on", 0, 9, 1, NONE, NONE, NONE, NONE, 2, 3);
        tellVotes(PRECOMMIT, 0, 0, 0, 1, 2, 3);
        dueSeat("not stale any more", 1, 0, 0, NONE, NONE, NONE, NONE, 1, 0);
    }

    private void lostLetters() {
        layAlone();
        fillTo(1, 399);
        tell(1, PREVOTE, 0, 0, 0, 0);
        int last = x.count(2) - 1;
        Due.is("the last letter", last, 399);
        Due.is("one more", x.say(1, PREVOTE, 0, 0, 0, 0), FULL);
        Due.is("the seat goes on", x.seat(0, 2), 1);
    }
}
