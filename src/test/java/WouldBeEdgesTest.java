/** Promises 22 to 27, where they name an edge: each sentence has a test of its own. */
public final class WouldBeEdgesTest {
    private static void theyRefuseWhatThereIsNot() {
        for (int amendment : Refusals.outside(0, 4)) {
            Refusals.outOfBounds("22: AMENDMENT " + amendment, Samples::settled, o -> o.wouldPass(amendment));
            Refusals.outOfBounds("23: AMENDMENT " + amendment, Samples::settled, o -> o.wouldMoot(amendment));
        }
        Refusals.outOfBounds("22: AMENDMENT 20", Samples::full, o -> o.wouldPass(20));
        Refusals.outOfBounds("23: AMENDMENT 20", Samples::full, o -> o.wouldMoot(20));
        for (int party : Refusals.outside(0, 0)) {
            Refusals.outOfBounds("25: PARTY " + party, Samples::settled, o -> o.otherwise(party));
        }
        Refusals.outOfBounds("25: PARTY 5", Samples::full, o -> o.otherwise(5));
        Checks.due("25: the last of 5", Samples.full().otherwise(4), 0);
    }

    private static void oneThatIsNotLaidWouldPassToo() {
        AgendumOffice o = Samples.row(40);
        o.party(2);
        o.party(1);
        o.lay(2, 0, 5);
        o.lay(2, 0, 6);
        o.lay(2, 1, 6);
        o.lay(2, 2, 6);
        o.vote(0, 0, 1);
        o.vote(0, 1, 1);
        o.vote(0, 2, 1);
        o.vote(0, 3, 1);
        o.withdraw(3);
        o.sit(300);
        o.call();
        o.quorum(100);
        o.call();
        o.quorum(60);
        int[] due = {1, 3, 2, 4};
        for (int a = 0; a < 4; a++) {
            Checks.due("22: how " + a + " stands", o.ofAmendment(a, 3), due[a]);
            Checks.due("22: it is not LAID, but has the votes for it", o.wouldPass(a), true);
        }
        o.quorum(67);
        for (int a = 0; a < 4; a++) {
            Checks.due("22: by QUORUM as it is now", o.wouldPass(a), false);
        }
    }

    /** An AMENDMENT for a 41st CLAUSE, with an AYE; two CHANGES TO it. */
    private static AgendumOffice fortyFirst(int kind) {
        AgendumOffice o = Samples.row(39);
        o.party(1);
        o.lay(kind, 1, 5);
        o.change(0, 6);
        o.change(0, 7);
        o.vote(0, 0, 1);
        Samples.pass(o, o.lay(4, 0, 9));
        return o;
    }

    private static void whatCannotBeDoneWouldPassButMootsNothing() {
        for (int kind = 3; kind <= 4; kind++) {
            AgendumOffice o = fortyFirst(kind);
            Checks.due("11: it cannot be DONE", o.canBeDone(0), false);
            Checks.due("22: it would PASS", o.wouldPass(0), true);
            Checks.due("23: it cannot be DONE", o.wouldMoot(0), 0);
            Checks.due("24: no 41st CLAUSE", o.inTheEnd(), 40);
        }
        AgendumOffice o = Samples.row(38);
        o.lay(3, 1, 5);
        o.change(0, 6);
        o.change(0, 7);
        Samples.pass(o, o.lay(4, 0, 9));
        Checks.due("23: the 40th CLAUSE can be, and both CHANGES would be MOOT", o.wouldMoot(0), 2);
    }

    /** 0 is LOST, 1 WITHDRAWN, 2 PASSED, 3 MOOT, and 4 is LAID: each with another TEXT, TO the same CLAUSE. */
    private static AgendumOffice laidAfter() {
        AgendumOffice o = Samples.row(1);
        o.lay(2, 0, 1);
        o.withdraw(o.lay(2, 0, 2));
        o.party(1);
        o.sit(300);
        o.call();
        o.lay(2, 0, 3);
        o.lay(2, 0, 4);
        o.vote(0, 2, 1);
        o.call();
        o.lay(2, 0, 5);
        return o;
    }

    private static void oneThatIsNotLaidMootsNothing() {
        AgendumOffice o = laidAfter();
        int[] due = {2, 4, 1, 3, 0};
        for (int a = 0; a < 5; a++) {
            Checks.due("23: how " + a + " stands", o.ofAmendment(a, 3), due[a]);
            Checks.due("23: by " + a, o.wouldMoot(a), 0);
        }
        o.lay(2, 0, 6);
        Checks.due("23: the one that is LAID, alone", o.wouldMoot(4), 1);
        Checks.due("23: one that PASSED", o.wouldMoot(2), 0);
        Checks.due("23: one that is LOST", o.wouldMoot(0), 0);
        Checks.due("23: one that is MOOT", o.wouldMoot(3), 0);
        Checks.due("23: one that was WITHDRAWN", o.wouldMoot(1), 0);
    }

    private static void oneNeedNotBeNextToBePutNow() {
        AgendumOffice o = Samples.row(2);
        o.lay(2, 0, 5);
        o.lay(2, 1, 6);
        o.lay(2, 1, 7);
        o.change(2, 8);
        Checks.due("23: not the next one; nobody votes for it", o.wouldMoot(1), 2);
        Checks.due("23: nor this one; what was to CHANGE it is counted", o.wouldMoot(2), 2);
    }

    /** CLAUSE 3 is within 0, 1 and 2; of five AMENDMENTS TO it one is a MOVE, and 4 has it as AIM. */
    private static AgendumOffice toBeStruck() {
        AgendumOffice o = Samples.deep();
        o.clause(-1, 20);
        o.lay(2, 3, 5);
        o.change(0, 6);
        o.lay(1, 3, 4);
        o.lay(1, 4, 3);
        o.lay(0, 3, 0);
        o.lay(3, 4, 3);
        o.lay(0, 0, 0);
        return o;
    }

    private static void aStrikeWouldMootAllBelow() {
        AgendumOffice o = toBeStruck();
        Checks.due("23: by the STRIKE of 0", o.wouldMoot(6), 5);
        Checks.due("23: by the STRIKE of 3", o.wouldMoot(4), 4);
        Checks.due("23: by a MOVE, those of the KIND 1 TO it alone", o.wouldMoot(2), 0);
        Checks.due("23: by what is BEHIND", o.wouldMoot(5), 0);
        Checks.due("27: with all these", o.digest(), Digests.of(o, 0));
        Samples.pass(o, 6);
        Checks.due("5: MOOT, as it would be", o.many(6), 5);
        Checks.due("23: those MOOT before are not counted", o.wouldMoot(5), 0);
    }

    private static void as19WouldBeMoot() {
        AgendumOffice o = Samples.row(1);
        for (int a = 0; a < 20; a++) {
            o.lay(2, 0, a);
        }
        for (int a = 0; a < 20; a++) {
            Checks.due("23: 19 others", o.wouldMoot(a), 19);
        }
        AgendumOffice same = Samples.row(1);
        for (int a = 0; a < 20; a++) {
            same.lay(2, 0, 999);
        }
        Checks.due("23: those that PASS with it are not MOOT", same.wouldMoot(0), 0);
        Checks.due("26: and would not be PUT, but nobody votes", same.calledAt(19), 19);
    }

    private static void theEndOfTheLeastAndTheMost() {
        Checks.due("24: of an empty BILL", new AgendumOffice().inTheEnd(), 0);
        Checks.due("24: none is LAID", Samples.row(40).inTheEnd(), 40);
        AgendumOffice o = Samples.row(38);
        o.party(1);
        for (int a = 0; a < 4; a++) {
            o.lay(3 + a % 2, a, a);
        }
        Samples.ayes(o);
        Checks.due("24: at most 40", o.inTheEnd(), 40);
        o.vote(0, 0, 0);
        o.vote(0, 1, 0);
        o.vote(0, 2, 0);
        Checks.due("24: one is new", o.inTheEnd(), 39);
        AgendumOffice none = Samples.deep();
        none.lay(0, 0, 0);
        none.party(1);
        Samples.ayes(none);
        Checks.due("24: none is left", none.inTheEnd(), 0);
        Checks.due("24: nothing is changed", none.many(1), 4);
    }

    private static void whatWouldBeNeedsNoSitting() {
        AgendumOffice o = Samples.row(2);
        o.party(1);
        o.lay(0, 0, 0);
        o.lay(0, 1, 0);
        Samples.ayes(o);
        Checks.due("24: no SITTING", o.inTheEnd(), 0);
        Checks.due("26: no SITTING", o.calledAt(1), 1);
        o.sit(0);
        Checks.due("24: no MINUTES", o.inTheEnd(), 0);
        Checks.due("25: no MINUTES", o.otherwise(0), 2);
        Checks.due("26: no MINUTES", o.calledAt(1), 1);
        Checks.due("5: none are taken", o.many(10), 0);
    }

    /** A new one that would come BEHIND 0 and the one that came so is not BELOW that one, and not STRUCK with it. */
    private static void whatWouldComeBehindHasTheSameParent() {
        AgendumOffice o = Samples.row(1);
        Samples.pass(o, o.lay(3, 0, 5));
        o.lay(3, 0, 6);
        o.lay(0, 1, 0);
        Samples.ayes(o);
        Checks.due("24: 0 and the new one", o.inTheEnd(), 2);
        o.call();
        Checks.reads(o, "the new one is the last", 0, 1, 2);
        o.call();
        Checks.reads(o, "as it would be", 0, 2);
    }

    private static void whatIsStruckInTheEndStaysWritten() {
        AgendumOffice o = Samples.row(39);
        o.party(1);
        o.lay(4, 0, 1);
        o.lay(0, 1, 0);
        o.lay(4, 2, 1);
        Samples.ayes(o);
        Checks.due("24: a STRUCK one makes no room for a 41st", o.inTheEnd(), 39);
        Checks.due("26: but all are PUT", o.calledAt(2), 2);
    }

    private static void otherwiseCountsWhatIsLaid() {
        AgendumOffice o = Samples.settled();
        Checks.due("25: nobody votes for what is LAID", o.otherwise(0), 0);
        o.vote(0, 0, 1);
        Checks.due("25: the one that is LAID", o.otherwise(0), 1);
        o.vote(0, 0, -1);
        Checks.due("25: LOST with its NO, and LOST without", o.otherwise(0), 0);
        o.withdraw(0);
        Checks.due("25: none is LAID", o.otherwise(0), 0);
        AgendumOffice full = Samples.full();
        for (int a = 0; a < 20; a++) {
            full.vote(4, a, 1);
        }
        Checks.due("25: all 20", full.otherwise(4), 20);
        Checks.due("25: none by one that does not vote", full.otherwise(3), 0);
        Checks.due("13: its votes stay", full.vote(4, 19, 1), 1);
    }

    /** What is LOST in one course, and MOOT in the other, comes to be otherwise; MOOT by another one does not. */
    private static void otherwiseComparesHowEachStands() {
        AgendumOffice o = Samples.row(1);
        o.party(1);
        o.party(2);
        o.lay(2, 0, 5);
        o.lay(2, 0, 6);
        o.lay(2, 0, 7);
        o.vote(0, 0, 1);
        Checks.due("25: PASSED and MOOT, or all LOST", o.otherwise(0), 3);
        o.vote(1, 1, 1);
        Checks.due("25: the last one is MOOT in both", o.otherwise(0), 2);
        Checks.due("25: the other one's vote changes nothing", o.otherwise(1), 0);
        o.vote(1, 0, -1);
        Checks.due("25: without its NO the first PASSES, not the second; the last one is MOOT by another",
            o.otherwise(1), 2);
    }

    private static void theQuorumCountsTheAbsent() {
        AgendumOffice o = Samples.row(1);
        o.party(50);
        o.party(50);
        o.lay(2, 0, 5);
        o.vote(0, 0, 1);
        o.vote(1, 0, 1);
        o.quorum(50);
        Checks.due("25: 50 of 100 vote still", o.otherwise(0), 0);
        o.quorum(51);
        Checks.due("25: all SEATS count, also of one that votes not at all", o.otherwise(0), 1);
    }

    private static void calledAtGoesFrom0ToTheLast() {
        AgendumOffice o = Samples.full();
        for (int k = 0; k < 20; k++) {
            Checks.due("26: behind " + k + " others", o.calledAt(k), k);
        }
        for (int k : Refusals.outside(0, 19)) {
            Refusals.outOfBounds("26: k " + k, Samples::full, x -> x.calledAt(k));
        }
        Checks.due("26: the only one", Samples.settled().calledAt(0), 0);
        for (int k : Refusals.outside(0, 0)) {
            Refusals.outOfBounds("26: k " + k + ", one is LAID", Samples::settled, x -> x.calledAt(k));
        }
        for (int k : new int[] {-1, 0, 1}) {
            Refusals.outOfBounds("26: k " + k + ", none is LAID", () -> Samples.row(1), x -> x.calledAt(k));
        }
    }

    private static AgendumOffice twins() {
        AgendumOffice o = Samples.row(2);
        o.party(1);
        o.lay(2, 1, 5);
        o.lay(2, 0, 7);
        o.lay(2, 0, 7);
        o.lay(2, 0, 8);
        o.vote(0, 1, 1);
        return o;
    }

    private static void whatIsMootOrPassesWithOneIsNotPut() {
        AgendumOffice o = twins();
        Checks.due("26: the first", o.calledAt(0), 1);
        Checks.due("26: neither its twin nor the MOOT one", o.calledAt(1), 0);
        Refusals.outOfBounds("26: two were PUT", WouldBeEdgesTest::twins, x -> x.calledAt(2));
        o.vote(0, 1, 0);
        Checks.due("26: the twin of a LOST one is", o.calledAt(1), 2);
        Checks.due("26: the last", o.calledAt(3), 0);
    }

    private static void whatCannotBeDoneIsPut() {
        AgendumOffice o = fortyFirst(3);
        Checks.due("26: its first CHANGE", o.calledAt(0), 1);
        Checks.due("26: its second CHANGE", o.calledAt(1), 2);
        Checks.due("26: it is PUT, though it cannot be DONE", o.calledAt(2), 0);
    }

    private static void theDigestWrapsAround() {
        AgendumOffice none = new AgendumOffice();
        Checks.due("27: of a new one", none.digest(), Digests.of(none, 0));
        AgendumOffice one = Samples.row(1);
        Checks.due("27: of one CLAUSE", one.digest(), Digests.of(one, 0));
        AgendumOffice o = Samples.settled();
        o.petition(0, 9999);
        o.petition(3, 1);
        o.vote(0, 0, 1);
        Checks.due("27: of all that stand", o.digest(), Digests.of(o, 2));
        AgendumOffice deep = Samples.deep();
        deep.petition(3, 5);
        deep.petition(1, 6);
        Samples.pass(deep, deep.lay(0, 2, 0));
        Samples.pass(deep, deep.lay(3, 1, 7));
        Samples.pass(deep, deep.lay(0, 0, 0));
        Checks.due("27: of an empty BILL with all STRUCK", deep.digest(), Digests.of(deep, 2));
    }

    /** A new one's: 5754, twelve numbers of many(), next() NONE, and inTheEnd() 0. */
    private static void theDigestOfANewOne() {
        long d = 5754;
        for (int v : new int[] {0, 0, 0, 0, 0, 0, 0, 0, 0, 0, -1, 0, -1, 0}) {
            d = d * 31 + v;
        }
        Checks.due("27: by hand", new AgendumOffice().digest(), d);
        Checks.due("27: below 0, as it wrapped around", d < 0, true);
    }

    private static void theDigestOfAFullOne() {
        AgendumOffice o = Samples.full();
        long before = o.digest();
        Checks.due("27: again", o.digest(), before);
        Checks.due("27: of another one, made alike", Samples.full().digest(), before);
        o.vote(4, 19, 1);
        Checks.due("27: otherwise() of the last PARTY counts", o.digest() == before, false);
    }

    private static void nothingIsChangedByAsking() {
        AgendumOffice o = twins();
        o.lay(3, 0, 5);
        o.lay(4, 1, 6);
        o.lay(0, 1, 0);
        o.lay(1, 0, 1);
        o.petition(1, 5);
        Samples.ayes(o);
        long before = o.digest();
        for (int a = 0; a < 8; a++) {
            o.wouldPass(a);
            o.wouldMoot(a);
            Checks.due("22, 23: nothing is changed", o.digest(), before);
        }
        o.inTheEnd();
        o.otherwise(0);
        o.calledAt(2);
        Checks.due("24 to 26: nothing is changed", o.digest(), before);
        Checks.reads(o, "24 to 26: the BILL", 0, 1);
        Checks.due("20: it stays tied", o.tied(0), 1);
        Checks.due("5: no CLAUSE is new", o.many(0), 2);
    }

    public static void main(String[] args) {
        theyRefuseWhatThereIsNot();
        oneThatIsNotLaidWouldPassToo();
        whatCannotBeDoneWouldPassButMootsNothing();
        oneThatIsNotLaidMootsNothing();
        oneNeedNotBeNextToBePutNow();
        aStrikeWouldMootAllBelow();
        as19WouldBeMoot();
        theEndOfTheLeastAndTheMost();
        whatWouldBeNeedsNoSitting();
        whatWouldComeBehindHasTheSameParent();
        whatIsStruckInTheEndStaysWritten();
        otherwiseCountsWhatIsLaid();
        otherwiseComparesHowEachStands();
        theQuorumCountsTheAbsent();
        calledAtGoesFrom0ToTheLast();
        whatIsMootOrPassesWithOneIsNotPut();
        whatCannotBeDoneIsPut();
        theDigestWrapsAround();
        theDigestOfANewOne();
        theDigestOfAFullOne();
        nothingIsChangedByAsking();
        Checks.end("WouldBeEdgesTest");
    }
}
