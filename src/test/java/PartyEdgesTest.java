/** Promises 12 to 18 and sections 4 and 6, where they name an edge: each sentence has a test of its own. */
public final class PartyEdgesTest {
    private static void seatsAre1To99() {
        AgendumOffice o = new AgendumOffice();
        Checks.due("12: 1 of SEATS is taken", o.party(1), 0);
        Checks.due("12: 99 SEATS are taken", o.party(99), 1);
        Checks.due("18: 1", o.ofParty(0, 0), 1);
        Checks.due("18: 99", o.ofParty(1, 0), 99);
        for (int seats : Refusals.outside(1, 99)) {
            Refusals.badArgument("12: SEATS " + seats, Samples::settled, x -> x.party(seats));
        }
    }

    private static void thereAreAtMost5() {
        AgendumOffice o = new AgendumOffice();
        for (int p = 0; p < 5; p++) {
            Checks.due("12: PARTY " + p, o.party(p + 1), p);
        }
        Refusals.badState("12: the sixth", Samples::full, x -> x.party(1));
        for (int seats : Refusals.outside(1, 99)) {
            Refusals.badArgument("12: bad SEATS, ahead of 5", Samples::full, x -> x.party(seats));
        }
    }

    private static void votesAreMinus1To1() {
        AgendumOffice o = Samples.settled();
        Checks.due("13: not at all, at first", o.vote(0, 0, -1), 0);
        Checks.due("13: NO before", o.vote(0, 0, 1), -1);
        Checks.due("13: AYE before", o.vote(0, 0, 0), 1);
        Checks.due("13: not at all before", o.vote(0, 0, 0), 0);
        for (int vote : Refusals.outside(-1, 1)) {
            Refusals.badArgument("13: vote " + vote, Samples::settled, x -> x.vote(0, 0, vote));
        }
    }

    private static void theyVoteOnWhatThereIs() {
        for (int party : Refusals.outside(0, 0)) {
            Refusals.outOfBounds("13: PARTY " + party, Samples::settled, o -> o.vote(party, 0, 1));
        }
        for (int amendment : Refusals.outside(0, 4)) {
            Refusals.outOfBounds("13: AMENDMENT " + amendment, Samples::settled, o -> o.vote(0, amendment, 1));
        }
        AgendumOffice full = Samples.full();
        Checks.due("13: the last PARTY, as to the last AMENDMENT", full.vote(4, 19, 1), 0);
        Checks.due("13: as it did before", full.vote(4, 19, 0), 1);
        Refusals.outOfBounds("13: PARTY 5", Samples::full, o -> o.vote(5, 19, 1));
        Refusals.outOfBounds("13: AMENDMENT 20", Samples::full, o -> o.vote(4, 20, 1));
    }

    private static void theyVoteOnWhatIsLaid() {
        for (int stands = 1; stands <= 4; stands++) {
            int amendment = stands;
            for (int vote = -1; vote <= 1; vote++) {
                int v = vote;
                Refusals.badState("13: one that stands " + stands, Samples::settled, o -> o.vote(0, amendment, v));
            }
        }
    }

    private static void voteNamesItsExceptionsInOrder() {
        Refusals.outOfBounds("13: no PARTY, ahead of a bad vote", Samples::settled, o -> o.vote(1, 0, 2));
        Refusals.outOfBounds("13: no PARTY, ahead of one not LAID", Samples::settled, o -> o.vote(1, 1, 1));
        Refusals.outOfBounds("13: no AMENDMENT, ahead of a bad vote", Samples::settled, o -> o.vote(0, 5, -2));
        Refusals.badArgument("13: a bad vote, ahead of one not LAID", Samples::settled, o -> o.vote(0, 1, 2));
    }

    private static void eachVoteIsItsOwn() {
        AgendumOffice o = Samples.full();
        for (int i = 0; i < 100; i++) {
            Checks.due("13: not at all, at first", o.vote(i / 20, i % 20, i % 3 - 1), 0);
        }
        for (int i = 0; i < 100; i++) {
            Checks.due("13: as it did before", o.vote(i / 20, i % 20, 0), i % 3 - 1);
        }
    }

    private static void aPartyThatComesLaterVotesToo() {
        AgendumOffice o = Samples.settled();
        int later = o.party(11);
        o.vote(0, 0, 1);
        Checks.due("4: the one ahead, alone", o.wouldPass(0), true);
        Checks.due("13: not at all, at first", o.vote(later, 0, -1), 0);
        Checks.due("4: more NO by then", o.wouldPass(0), false);
    }

    private static void quorumIs0To100() {
        AgendumOffice o = new AgendumOffice();
        Checks.due("14: 0 at first, and 100 is taken", o.quorum(100), 0);
        Checks.due("14: 100 before, and 0 is taken", o.quorum(0), 100);
        Checks.due("14: 0 before", o.quorum(1), 0);
        for (int quorum : Refusals.outside(0, 100)) {
            Refusals.badArgument("14: QUORUM " + quorum, PartyEdgesTest::withQuorum, x -> x.quorum(quorum));
        }
    }

    private static AgendumOffice withQuorum() {
        AgendumOffice o = Samples.settled();
        o.quorum(73);
        return o;
    }

    /** PARTIES with 60, 39 and 1 of 100 SEATS, and an AMENDMENT. */
    private static AgendumOffice hundred() {
        AgendumOffice o = Samples.row(1);
        o.party(60);
        o.party(39);
        o.party(1);
        o.lay(2, 0, 5);
        return o;
    }

    private static void exactlyTheQuorumIsEnough() {
        AgendumOffice o = hundred();
        o.vote(0, 0, 1);
        o.quorum(60);
        Checks.due("4: 60 of 100 with QUORUM 60", o.wouldPass(0), true);
        o.quorum(61);
        Checks.due("4: 60 of 100 with QUORUM 61", o.wouldPass(0), false);
        o.vote(2, 0, -1);
        Checks.due("4: those that vote NO are counted, too", o.wouldPass(0), true);
        o.quorum(100);
        Checks.due("4: 61 of 100 with QUORUM 100", o.wouldPass(0), false);
        o.vote(1, 0, 1);
        Checks.due("4: all with QUORUM 100", o.wouldPass(0), true);
    }

    private static void theQuorumIsNotCut() {
        AgendumOffice o = Samples.row(1);
        o.party(2);
        o.party(1);
        o.lay(2, 0, 5);
        o.vote(0, 0, 1);
        o.quorum(66);
        Checks.due("4: 200 of 3 * 66", o.wouldPass(0), true);
        o.quorum(67);
        Checks.due("4: 200 of 3 * 67", o.wouldPass(0), false);
        o.vote(1, 0, 1);
        o.vote(0, 0, 0);
        o.quorum(33);
        Checks.due("4: 100 of 3 * 33", o.wouldPass(0), true);
        o.quorum(34);
        Checks.due("4: 100 of 3 * 34", o.wouldPass(0), false);
    }

    private static void asManyNoesAreTooMany() {
        AgendumOffice o = Samples.row(1);
        o.party(7);
        o.party(4);
        o.party(3);
        o.lay(2, 0, 5);
        Checks.due("4: none votes, with QUORUM 0", o.wouldPass(0), false);
        o.vote(0, 0, 1);
        Checks.due("4: AYE alone", o.wouldPass(0), true);
        o.vote(1, 0, -1);
        Checks.due("4: more AYE", o.wouldPass(0), true);
        o.vote(2, 0, -1);
        Checks.due("4: as many NO", o.wouldPass(0), false);
        o.vote(0, 0, 0);
        Checks.due("4: NO alone", o.wouldPass(0), false);
    }

    private static void minutesAre0To300() {
        AgendumOffice o = new AgendumOffice();
        o.party(1);
        Checks.due("15: 0 MINUTES are taken", o.sit(0), 0);
        Checks.due("15: 300 MINUTES are taken", o.sit(300), 0);
        Checks.due("5: 300 MINUTES left", o.many(10), 300);
        for (int minutes : Refusals.outside(0, 300)) {
            Refusals.badArgument("15: MINUTES " + minutes, Samples::settled, x -> x.sit(minutes));
            Refusals.badArgument("15: MINUTES " + minutes + ", ahead of no PARTY", () -> Samples.row(1),
                x -> x.sit(minutes));
        }
    }

    private static void withoutPartyNoneSits() {
        Refusals.badState("15: no PARTY", () -> Samples.row(1), o -> o.sit(300));
        Refusals.badState("15: no PARTY, no MINUTES", () -> Samples.row(1), o -> o.sit(0));
        AgendumOffice o = new AgendumOffice();
        o.party(1);
        Checks.due("15: one PARTY", o.sit(300), 0);
    }

    private static void whatIsLeftOver() {
        AgendumOffice o = Samples.row(2);
        o.party(1);
        o.lay(2, 0, 5);
        o.lay(2, 1, 5);
        Checks.due("15: without one ahead", o.sit(10), 0);
        Checks.due("15: all of it", o.sit(20), 10);
        o.speak(0, 13);
        o.call();
        Checks.due("15: less what was SPOKEN, and 3 for a call", o.sit(3), 4);
        o.call();
        Checks.due("15: nothing", o.sit(5), 0);
        Checks.due("15: all of it again", o.sit(0), 5);
    }

    private static void theOneAheadIsOver() {
        AgendumOffice o = Samples.row(1);
        o.party(1);
        o.party(1);
        o.lay(2, 0, 5);
        o.sit(100);
        o.speak(0, 20);
        o.sit(10);
        Checks.due("6: MINUTES of the new one", o.many(10), 10);
        Checks.due("6: a SHARE of the new one", o.ofParty(0, 1), 5);
        Checks.due("6: a SHARE of the new one", o.ofParty(1, 1), 5);
        o.sit(0);
        Checks.due("6: a SHARE of nothing", o.ofParty(1, 1), 0);
    }

    private static void sharesAreCut() {
        AgendumOffice o = new AgendumOffice();
        int[] seats = {99, 98, 1, 2, 7};
        for (int s : seats) {
            o.party(s);
        }
        for (int minutes : new int[] {0, 1, 206, 207, 208, 300}) {
            o.sit(minutes);
            for (int p = 0; p < 5; p++) {
                Checks.due("6: the SHARE of " + minutes, o.ofParty(p, 1), minutes * seats[p] / 207);
            }
        }
    }

    private static AgendumOffice lateComer() {
        AgendumOffice o = Samples.row(1);
        o.party(1);
        o.lay(2, 0, 5);
        o.sit(100);
        o.party(99);
        return o;
    }

    private static void oneThatComesLaterHasNoShare() {
        AgendumOffice o = lateComer();
        Checks.due("6: one that came later", o.ofParty(1, 1), 0);
        Checks.due("6: one that was there keeps its SHARE", o.ofParty(0, 1), 100);
        Refusals.badState("16: nothing of a SHARE", PartyEdgesTest::lateComer, x -> x.speak(1, 1));
        o.sit(100);
        Checks.due("6: with the next SITTING", o.ofParty(1, 1), 99);
        Checks.due("18: NONE without a SITTING", Samples.full().ofParty(4, 1), -1);
    }

    /** PARTIES with a SHARE of 30 and 20, of 50 MINUTES; an AMENDMENT. */
    private static AgendumOffice sitting() {
        AgendumOffice o = Samples.row(1);
        o.party(3);
        o.party(2);
        o.lay(2, 0, 5);
        o.sit(50);
        return o;
    }

    private static void oneSpeaksForAtLeast1() {
        AgendumOffice o = sitting();
        Checks.due("16: 1 MINUTE is taken", o.speak(1, 1), 19);
        for (int minutes : new int[] {Integer.MIN_VALUE, -1, 0}) {
            Refusals.badArgument("16: MINUTES " + minutes, PartyEdgesTest::sitting, x -> x.speak(0, minutes));
        }
    }

    private static void oneSpeaksForAllOfTheShare() {
        AgendumOffice o = sitting();
        Checks.due("16: all of the SHARE is taken", o.speak(0, 30), 0);
        Checks.due("5: MINUTES left", o.many(10), 20);
        Checks.due("18: the SHARE of the other one stays", o.ofParty(1, 1), 20);
        Checks.due("16: all of the other SHARE, and of the SITTING", o.speak(1, 20), 0);
        Checks.due("5: no MINUTES left", o.many(10), 0);
        Refusals.badState("16: one more than the SHARE", PartyEdgesTest::sitting, x -> x.speak(0, 31));
        Refusals.badState("16: far more", PartyEdgesTest::sitting, x -> x.speak(0, Integer.MAX_VALUE));
    }

    /** The SHARES are 30 and 20 still, but 23 MINUTES are left; an AMENDMENT is LAID. */
    private static AgendumOffice lateSitting() {
        AgendumOffice o = sitting();
        for (int i = 0; i < 9; i++) {
            o.call();
            o.lay(2, 0, 5);
        }
        return o;
    }

    private static void oneSpeaksForAllOfTheSitting() {
        AgendumOffice o = lateSitting();
        Checks.due("6: 3 MINUTES a call", o.many(10), 23);
        Checks.due("6: its SHARES stay", o.ofParty(0, 1), 30);
        Refusals.badState("16: one more than the SITTING", PartyEdgesTest::lateSitting, x -> x.speak(0, 24));
        Checks.due("16: all of the SITTING is taken", o.speak(0, 23), 7);
        Checks.due("5: no MINUTES left", o.many(10), 0);
        Refusals.badState("16: of a SITTING of 0", PartyEdgesTest::noTime, x -> x.speak(0, 1));
    }

    private static AgendumOffice noTime() {
        AgendumOffice o = sitting();
        o.sit(0);
        return o;
    }

    private static AgendumOffice noSitting() {
        AgendumOffice o = Samples.row(1);
        o.party(1);
        o.lay(2, 0, 5);
        return o;
    }

    private static AgendumOffice noneLaid() {
        AgendumOffice o = sitting();
        o.withdraw(0);
        return o;
    }

    private static void oneSpeaksToTheNextOne() {
        Refusals.badState("16: no SITTING", PartyEdgesTest::noSitting, o -> o.speak(0, 1));
        Refusals.badState("16: no next AMENDMENT", PartyEdgesTest::noneLaid, o -> o.speak(0, 1));
        for (int party : Refusals.outside(0, 1)) {
            Refusals.outOfBounds("16: PARTY " + party, PartyEdgesTest::sitting, o -> o.speak(party, 1));
            Refusals.outOfBounds("16: no PARTY, ahead of bad MINUTES", PartyEdgesTest::sitting,
                o -> o.speak(party, 0));
            Refusals.outOfBounds("16: no PARTY, ahead of no next one", PartyEdgesTest::noneLaid,
                o -> o.speak(party, 1));
        }
        Refusals.badArgument("16: bad MINUTES, ahead of no SITTING", PartyEdgesTest::noSitting, o -> o.speak(0, 0));
        Refusals.badArgument("16: bad MINUTES, ahead of no next one", PartyEdgesTest::noneLaid, o -> o.speak(0, -1));
    }

    private static void whatOneSpokeEver() {
        AgendumOffice o = sitting();
        Checks.due("18: never", o.ofParty(0, 2), 0);
        o.speak(0, 30);
        o.sit(300);
        Checks.due("18: in the SITTING that is over", o.ofParty(0, 2), 30);
        o.speak(0, 180);
        Checks.due("18: in both", o.ofParty(0, 2), 210);
        Checks.due("18: the other one never", o.ofParty(1, 2), 0);
    }

    private static AgendumOffice sittingOf(int minutes) {
        AgendumOffice o = noSitting();
        o.sit(minutes);
        return o;
    }

    private static void aCallTakes3Minutes() {
        for (int minutes = 0; minutes <= 2; minutes++) {
            int m = minutes;
            Refusals.badState("17: " + m + " MINUTES", () -> sittingOf(m), o -> o.call());
        }
        AgendumOffice o = sittingOf(3);
        Checks.due("17: 3 MINUTES are enough", o.call(), 2);
        Checks.due("5: no MINUTES left", o.many(10), 0);
        Checks.due("6: its SHARE stays", o.ofParty(0, 1), 3);
        Refusals.badState("17: no SITTING", PartyEdgesTest::noSitting, x -> x.call());
        Refusals.badState("17: none is LAID", PartyEdgesTest::noneLaid, x -> x.call());
    }

    private static AgendumOffice spoken() {
        AgendumOffice o = sittingOf(100);
        o.speak(0, 98);
        return o;
    }

    private static void whatIsSpokenIsTakenToo() {
        Refusals.badState("17: 2 MINUTES are left of 100", PartyEdgesTest::spoken, o -> o.call());
        AgendumOffice o = sittingOf(100);
        o.speak(0, 97);
        Checks.due("17: 3 MINUTES are left of 100", o.call(), 2);
    }

    private static void whatComesOfACall() {
        AgendumOffice o = Samples.row(39);
        o.party(1);
        o.lay(4, 0, 1);
        o.lay(3, 1, 2);
        o.lay(2, 2, 3);
        o.vote(0, 0, 1);
        o.vote(0, 1, 1);
        o.sit(9);
        Checks.due("17: 1, it PASSED", o.call(), 1);
        Checks.due("17: 3, it is MOOT", o.call(), 3);
        Checks.due("17: 2, it is LOST", o.call(), 2);
        Checks.due("17: each took 3 MINUTES", o.many(10), 0);
    }

    /** What cannot be DONE is MOOT, also if nobody votes for it. */
    private static void whatCannotBeDoneIsNotLost() {
        AgendumOffice o = Samples.row(39);
        o.lay(3, 1, 2);
        Samples.pass(o, o.lay(4, 0, 1));
        Checks.due("22: it would not PASS", o.wouldPass(0), false);
        Checks.due("17: but it is MOOT", o.call(), 3);
    }

    private static void theQuorumHoldsForACall() {
        AgendumOffice o = hundred();
        o.vote(0, 0, 1);
        o.quorum(61);
        o.sit(10);
        Checks.due("17: too few vote", o.call(), 2);
        o.lay(2, 0, 5);
        o.vote(0, 1, 1);
        o.quorum(60);
        Checks.due("17: just enough vote", o.call(), 1);
    }

    private static void ofPartyRefuses() {
        for (int party : Refusals.outside(0, 1)) {
            Refusals.outOfBounds("18: PARTY " + party, PartyEdgesTest::sitting, o -> o.ofParty(party, 0));
            Refusals.outOfBounds("18: PARTY " + party + ", ahead of what", PartyEdgesTest::sitting,
                o -> o.ofParty(party, 4));
        }
        for (int what : Refusals.outside(0, 3)) {
            Refusals.badArgument("18: what " + what, PartyEdgesTest::sitting, o -> o.ofParty(1, what));
        }
        Refusals.outOfBounds("18: PARTY 5", Samples::full, o -> o.ofParty(5, 0));
    }

    private static void ayesOfThoseThatPassed() {
        AgendumOffice o = Samples.row(3);
        o.party(9);
        o.party(8);
        o.party(7);
        o.lay(2, 0, 50);
        o.lay(2, 0, 50);
        o.lay(2, 1, 60);
        o.lay(2, 2, 70);
        o.vote(0, 0, 1);
        o.vote(1, 1, 1);
        o.vote(2, 1, -1);
        o.vote(1, 2, 1);
        o.vote(0, 2, -1);
        o.sit(9);
        o.call();
        Checks.due("5: the one that PASSED with it", o.ofAmendment(1, 3), 1);
        Checks.due("18: AYE for the one that was PUT", o.ofParty(0, 3), 1);
        Checks.due("18: AYE for the one that PASSED with it", o.ofParty(1, 3), 1);
        Checks.due("18: NO for the one that PASSED with it", o.ofParty(2, 3), 0);
        o.call();
        Checks.due("18: AYE for one that is LOST", o.ofParty(1, 3), 1);
        Checks.due("18: NO for one that is LOST", o.ofParty(0, 3), 1);
        o.vote(0, 3, 1);
        Checks.due("18: AYE for one that is LAID", o.ofParty(0, 3), 1);
        o.withdraw(3);
        Checks.due("18: AYE for one that was WITHDRAWN", o.ofParty(0, 3), 1);
    }

    public static void main(String[] args) {
        seatsAre1To99();
        thereAreAtMost5();
        votesAreMinus1To1();
        theyVoteOnWhatThereIs();
        theyVoteOnWhatIsLaid();
        voteNamesItsExceptionsInOrder();
        eachVoteIsItsOwn();
        aPartyThatComesLaterVotesToo();
        quorumIs0To100();
        exactlyTheQuorumIsEnough();
        theQuorumIsNotCut();
        asManyNoesAreTooMany();
        minutesAre0To300();
        withoutPartyNoneSits();
        whatIsLeftOver();
        theOneAheadIsOver();
        sharesAreCut();
        oneThatComesLaterHasNoShare();
        oneSpeaksForAtLeast1();
        oneSpeaksForAllOfTheShare();
        oneSpeaksForAllOfTheSitting();
        oneSpeaksToTheNextOne();
        whatOneSpokeEver();
        aCallTakes3Minutes();
        whatIsSpokenIsTakenToo();
        whatComesOfACall();
        whatCannotBeDoneIsNotLost();
        theQuorumHoldsForACall();
        ofPartyRefuses();
        ayesOfThoseThatPassed();
        Checks.end("PartyEdgesTest");
    }
}
