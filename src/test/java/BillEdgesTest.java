/** Promises 1 to 5 and section 1, where they name an edge: each sentence has a test of its own. */
public final class BillEdgesTest {
    private static void aNewObjectHasNothing() {
        Refusals.outOfBounds("1: ofClause", AgendumOffice::new, o -> o.ofClause(0, 0));
        Refusals.outOfBounds("1: read", AgendumOffice::new, o -> o.read(0));
        Refusals.outOfBounds("1: clause within one", AgendumOffice::new, o -> o.clause(0, 0));
        for (int kind = 0; kind <= 4; kind++) {
            int k = kind;
            Refusals.outOfBounds("1: lay of the kind " + k, AgendumOffice::new, o -> o.lay(k, 0, 0));
        }
        Refusals.outOfBounds("1: change", AgendumOffice::new, o -> o.change(0, 0));
        Refusals.outOfBounds("1: withdraw", AgendumOffice::new, o -> o.withdraw(0));
        Refusals.outOfBounds("1: ofAmendment", AgendumOffice::new, o -> o.ofAmendment(0, 0));
        Refusals.outOfBounds("1: canBeDone", AgendumOffice::new, o -> o.canBeDone(0));
        Refusals.outOfBounds("1: vote", AgendumOffice::new, o -> o.vote(0, 0, 0));
        Refusals.badState("1: sit", AgendumOffice::new, o -> o.sit(10));
        Refusals.outOfBounds("1: speak", AgendumOffice::new, o -> o.speak(0, 1));
        Refusals.badState("1: call", AgendumOffice::new, o -> o.call());
        Refusals.outOfBounds("1: ofParty", AgendumOffice::new, o -> o.ofParty(0, 0));
        Refusals.outOfBounds("1: petition", AgendumOffice::new, o -> o.petition(0, 1));
        Refusals.outOfBounds("1: tied", AgendumOffice::new, o -> o.tied(0));
        Refusals.outOfBounds("1: wouldPass", AgendumOffice::new, o -> o.wouldPass(0));
        Refusals.outOfBounds("1: wouldMoot", AgendumOffice::new, o -> o.wouldMoot(0));
        Refusals.outOfBounds("1: otherwise", AgendumOffice::new, o -> o.otherwise(0));
        Refusals.outOfBounds("1: calledAt", AgendumOffice::new, o -> o.calledAt(0));
    }

    private static void aNewObjectCountsNothing() {
        AgendumOffice o = new AgendumOffice();
        for (int what = 0; what <= 11; what++) {
            Checks.due("1: many(" + what + ")", o.many(what), what == 10 ? -1 : 0);
        }
        Checks.due("1: next", o.next(), -1);
        Checks.due("1: inTheEnd", o.inTheEnd(), 0);
        Checks.due("1: meanBelow", o.meanBelow(), 0.0);
        Checks.due("1: QUORUM is 0 at first", o.quorum(100), 0);
    }

    private static void objectsShareNothing() {
        AgendumOffice one = new AgendumOffice();
        long before = one.digest();
        AgendumOffice other = Samples.full();
        other.sit(300);
        other.quorum(100);
        Checks.due("1: what is done to another one", one.digest(), before);
        Checks.due("1: QUORUM of another one", one.quorum(0), 0);
    }

    /** 512 calls are due; the last of them answers like any other. */
    private static void theLastCallAnswers() {
        AgendumOffice o = new AgendumOffice();
        long want = o.digest();
        for (int i = 2; i < 512; i++) {
            o.next();
        }
        Checks.due("what it is: the 512th call", o.digest(), want);
    }

    private static void textIs0To999() {
        AgendumOffice o = new AgendumOffice();
        Checks.due("2: TEXT 0 is taken", o.clause(-1, 0), 0);
        Checks.due("2: TEXT 999 is taken", o.clause(0, 999), 1);
        Checks.due("3: TEXT 0", o.ofClause(0, 0), 0);
        Checks.due("3: TEXT 999", o.ofClause(1, 0), 999);
        for (int text : Refusals.outside(0, 999)) {
            Refusals.badArgument("2: TEXT " + text, () -> Samples.row(2), x -> x.clause(-1, text));
            Refusals.badArgument("2: TEXT " + text + " within one", () -> Samples.row(2), x -> x.clause(1, text));
        }
    }

    private static void aParentIsAClauseOrNone() {
        AgendumOffice o = Samples.row(2);
        Checks.due("2: the first as PARENT", o.clause(0, 5), 2);
        Checks.due("2: the last as PARENT", o.clause(2, 6), 3);
        Checks.due("2: NONE as PARENT", o.clause(-1, 7), 4);
        Checks.due("3: PARENT 2", o.ofClause(3, 1), 2);
        Checks.due("3: PARENT NONE", o.ofClause(4, 1), -1);
        for (int parent : new int[] {Integer.MIN_VALUE, -2, 2, 3, 40, Integer.MAX_VALUE}) {
            Refusals.outOfBounds("2: PARENT " + parent, () -> Samples.row(2), x -> x.clause(parent, 0));
        }
    }

    private static AgendumOffice oneStruck() {
        AgendumOffice o = Samples.row(2);
        Samples.pass(o, o.lay(0, 0, 0));
        return o;
    }

    private static void aStruckParentIsRefused() {
        Refusals.outOfBounds("2: a STRUCK PARENT, ahead of that one was LAID", BillEdgesTest::oneStruck,
            o -> o.clause(0, 0));
        Refusals.badState("2: one in the BILL, but one was LAID", BillEdgesTest::oneStruck, o -> o.clause(1, 0));
    }

    private static void thereAreAtMost40() {
        AgendumOffice o = Samples.row(39);
        Checks.due("2: the 40th is taken", o.clause(38, 1), 39);
        Checks.due("5: 40 CLAUSES", o.many(0), 40);
        Refusals.badState("2: the 41st", () -> Samples.row(40), x -> x.clause(-1, 0));
        Refusals.badState("2: the 41st, within one", () -> Samples.row(40), x -> x.clause(39, 0));
    }

    private static void noneIsHigherThan3() {
        AgendumOffice o = Samples.deep();
        Checks.due("2: one that is HIGH 3 is taken", o.clause(2, 0), 4);
        Checks.due("3: HIGH 3", o.ofClause(4, 3), 3);
        Checks.due("3: HIGH 0", o.ofClause(0, 3), 0);
        Refusals.badState("2: one that would be HIGH 4", Samples::deep, x -> x.clause(3, 0));
    }

    private static void noneIsWrittenAsOneWasEverLaid() {
        for (int how = 0; how < 5; how++) {
            int stands = how;
            Refusals.badState("2: one was LAID, and stands " + stands, () -> oneThatStands(stands),
                o -> o.clause(-1, 0));
        }
    }

    /** One AMENDMENT stands so, and no other one is LAID; MOOT: there is the one by which it is, too. */
    private static AgendumOffice oneThatStands(int how) {
        AgendumOffice o = Samples.row(2);
        o.party(1);
        o.lay(2, 0, 999);
        if (how == 1) {
            Samples.pass(o, 0);
        } else if (how == 2) {
            o.sit(3);
            o.call();
        } else if (how == 3) {
            o.lay(2, 0, 998);
            Samples.pass(o, 0);
        } else if (how == 4) {
            o.withdraw(0);
        }
        Checks.due("how one stands", o.ofAmendment(how == 3 ? 1 : 0, 3), how);
        return o;
    }

    private static void oneThatWasRefusedWasNotLaid() {
        AgendumOffice o = Samples.deep();
        Checks.badState(o, "6: it cannot be DONE", () -> o.lay(4, 3, 0));
        Checks.badArgument(o, "6: a bad KIND", () -> o.lay(5, 0, 0));
        Checks.outOfBounds(o, "6: no CLAUSE", () -> o.lay(0, 4, 0));
        Checks.outOfBounds(o, "7: no AMENDMENT", () -> o.change(0, 0));
        Checks.due("2: none was LAID", o.clause(0, 0), 4);
    }

    private static void clauseNamesItsExceptionsInOrder() {
        Refusals.outOfBounds("2: no PARENT, ahead of a bad TEXT", () -> Samples.row(1), o -> o.clause(1, 1000));
        Refusals.outOfBounds("2: no PARENT, ahead of 40", () -> Samples.row(40), o -> o.clause(40, 0));
        Refusals.outOfBounds("2: no PARENT, ahead of both", () -> Samples.row(40), o -> o.clause(-2, -1));
        Refusals.badArgument("2: a bad TEXT, ahead of 40", () -> Samples.row(40), o -> o.clause(-1, 1000));
        Refusals.badArgument("2: a bad TEXT, ahead of too HIGH", Samples::deep, o -> o.clause(3, -1));
        Refusals.badArgument("2: a bad TEXT, ahead of that one was LAID", Samples::settled, o -> o.clause(0, -1));
        Refusals.outOfBounds("2: no PARENT, ahead of that one was LAID", Samples::settled, o -> o.clause(4, 0));
    }

    private static void ofClauseRefuses() {
        for (int clause : Refusals.outside(0, 3)) {
            Refusals.outOfBounds("3: CLAUSE " + clause, Samples::deep, o -> o.ofClause(clause, 0));
            Refusals.outOfBounds("3: CLAUSE " + clause + ", ahead of what", Samples::deep, o -> o.ofClause(clause, 8));
        }
        for (int what : Refusals.outside(0, 7)) {
            Refusals.badArgument("3: what " + what, Samples::deep, o -> o.ofClause(3, what));
        }
        Refusals.outOfBounds("3: CLAUSE 40", Samples::full, o -> o.ofClause(40, 0));
    }

    private static void numbersAre0To39() {
        AgendumOffice o = Samples.row(40);
        Checks.due("3: the NUMBER of the first", o.ofClause(0, 2), 0);
        Checks.due("3: the NUMBER of the last", o.ofClause(39, 2), 39);
        Checks.due("4: the first NUMBER", o.read(0), 0);
        Checks.due("4: the last NUMBER", o.read(39), 39);
        for (int number : Refusals.outside(0, 39)) {
            Refusals.outOfBounds("4: NUMBER " + number, () -> Samples.row(40), x -> x.read(number));
        }
        for (int number : Refusals.outside(0, 0)) {
            Refusals.outOfBounds("4: NUMBER " + number + " of those left", BillEdgesTest::oneStruck,
                x -> x.read(number));
        }
    }

    private static void manyCanBeBelow() {
        AgendumOffice o = new AgendumOffice();
        o.clause(-1, 0);
        for (int i = 1; i < 40; i++) {
            o.clause((i - 1) / 4, i);
        }
        Checks.due("3: 39 BELOW one", o.ofClause(0, 5), 39);
        Checks.due("3: 0 BELOW one", o.ofClause(39, 5), 0);
        Checks.due("3: those BELOW those, too", o.ofClause(1, 5), 20);
        Samples.pass(o, o.lay(0, 1, 0));
        Checks.due("3: those that are in the BILL alone", o.ofClause(0, 5), 18);
        Checks.due("3: BELOW a STRUCK one", o.ofClause(1, 5), 0);
        Samples.pass(o, o.lay(0, 0, 0));
        Checks.due("3: BELOW one, as all are STRUCK", o.ofClause(0, 5), 0);
    }

    private static void oneInTheBillIsNotStruck() {
        AgendumOffice o = Samples.row(2);
        Checks.due("3: the first, in the BILL", o.ofClause(0, 4), 0);
        Checks.due("3: the last, in the BILL", o.ofClause(1, 4), 0);
        Samples.pass(o, o.lay(0, 0, 0));
        Checks.due("3: STRUCK", o.ofClause(0, 4), 1);
        Checks.due("3: the other one", o.ofClause(1, 4), 0);
    }

    private static void aNewOneIsTheLastWithItsParent() {
        AgendumOffice o = Samples.row(2);
        o.clause(0, 2);
        o.clause(2, 3);
        Checks.reads(o, "2: within the first, not the last of all", 0, 2, 3, 1);
        o.clause(0, 4);
        Checks.reads(o, "2: behind what is BELOW the one ahead", 0, 2, 3, 4, 1);
        o.clause(-1, 5);
        Checks.reads(o, "2: the last of those with the PARENT NONE", 0, 2, 3, 4, 1, 5);
        o.clause(5, 6);
        Checks.reads(o, "2: within the last", 0, 2, 3, 4, 1, 5, 6);
    }

    private static void aStruckOneStaysAsItWas() {
        AgendumOffice o = Samples.deep();
        o.clause(-1, 4);
        o.petition(3, 7);
        Samples.pass(o, o.lay(0, 3, 0));
        Samples.pass(o, o.lay(0, 2, 0));
        Samples.pass(o, o.lay(1, 1, 4));
        Samples.pass(o, o.lay(0, 1, 0));
        Samples.pass(o, o.lay(0, 0, 0));
        int[][] due = {{10, -1, -1, 0, 1, 0, -1, 0}, {11, -1, -1, 0, 1, 0, -1, 0}, {12, 1, -1, 2, 1, 0, -1, 0},
            {13, 2, -1, 3, 1, 0, -1, 0}};
        for (int clause = 0; clause < due.length; clause++) {
            for (int what = 0; what <= 7; what++) {
                Checks.due("3: STRUCK " + clause + ", " + what, o.ofClause(clause, what), due[clause][what]);
            }
        }
    }

    private static void byWhichItCame() {
        AgendumOffice o = Samples.row(2);
        Checks.due("3: written", o.ofClause(0, 6), -1);
        Samples.pass(o, o.lay(3, 0, 5));
        for (int a = 1; a < 19; a++) {
            o.lay(2, 1, a);
        }
        Samples.pass(o, o.lay(4, 0, 6));
        Checks.due("3: by the first AMENDMENT", o.ofClause(2, 6), 0);
        Checks.due("3: by the last AMENDMENT", o.ofClause(3, 6), 19);
        Checks.due("9: a CLAUSE by the last AMENDMENT", o.ofAmendment(19, 5), 3);
    }

    private static void aStruckNewOneKeepsItsAmendment() {
        AgendumOffice o = Samples.row(1);
        Samples.pass(o, o.lay(4, 0, 5));
        Samples.pass(o, o.lay(0, 1, 0));
        Checks.due("3: the AMENDMENT of a STRUCK one", o.ofClause(1, 6), 0);
        Checks.due("9: the CLAUSE that is STRUCK since", o.ofAmendment(0, 5), 1);
    }

    private static void manySignatures() {
        AgendumOffice o = Samples.full();
        Checks.due("3: no SIGNATURES", o.ofClause(38, 7), 0);
        Checks.due("3: 12 times 9999 SIGNATURES", o.ofClause(39, 7), 119988);
    }

    private static void manyRefuses() {
        for (int what : Refusals.outside(0, 11)) {
            Refusals.badArgument("5: what " + what, Samples::settled, o -> o.many(what));
            Refusals.badArgument("5: what " + what + " of a new one", AgendumOffice::new, o -> o.many(what));
        }
    }

    private static void manyOfAFullOne() {
        AgendumOffice o = Samples.full();
        o.sit(300);
        int[] due = {40, 40, 20, 20, 0, 0, 0, 0, 5, 495, 300, 0};
        for (int what = 0; what <= 11; what++) {
            Checks.due("5: many(" + what + ") of a full one", o.many(what), due[what]);
        }
        for (int a = 0; a < 20; a++) {
            o.withdraw(a);
        }
        Checks.due("5: none is LAID", o.many(3), 0);
        Checks.due("5: all 20 are WITHDRAWN", o.many(7), 20);
    }

    private static void manyOfThoseThatStand() {
        AgendumOffice o = Samples.settled();
        for (int what = 3; what <= 7; what++) {
            Checks.due("5: many(" + what + "), one each", o.many(what), 1);
        }
    }

    private static void everIsNotInTheBill() {
        AgendumOffice o = Samples.deep();
        for (int p = 0; p < 12; p++) {
            o.petition(p % 4, 1);
        }
        Samples.pass(o, o.lay(0, 0, 0));
        Checks.due("5: CLAUSES ever", o.many(0), 4);
        Checks.due("5: those in the BILL", o.many(1), 0);
        Checks.due("5: all 12 PETITIONS are CLOSED", o.many(11), 12);
    }

    private static void noMinutesAreNotNone() {
        AgendumOffice o = new AgendumOffice();
        o.party(1);
        Checks.due("5: MINUTES without a SITTING", o.many(10), -1);
        o.sit(0);
        Checks.due("5: MINUTES of a SITTING of 0", o.many(10), 0);
    }

    private static void allSeatsAreOfAllParties() {
        AgendumOffice o = new AgendumOffice();
        for (int p = 0; p < 5; p++) {
            Checks.due("5: all SEATS of " + p, o.many(9), 99 * p);
            Checks.due("5: PARTIES", o.many(8), p);
            o.party(99);
        }
    }

    public static void main(String[] args) {
        aNewObjectHasNothing();
        aNewObjectCountsNothing();
        objectsShareNothing();
        theLastCallAnswers();
        textIs0To999();
        aParentIsAClauseOrNone();
        aStruckParentIsRefused();
        thereAreAtMost40();
        noneIsHigherThan3();
        noneIsWrittenAsOneWasEverLaid();
        oneThatWasRefusedWasNotLaid();
        clauseNamesItsExceptionsInOrder();
        ofClauseRefuses();
        numbersAre0To39();
        manyCanBeBelow();
        oneInTheBillIsNotStruck();
        aNewOneIsTheLastWithItsParent();
        aStruckOneStaysAsItWas();
        byWhichItCame();
        aStruckNewOneKeepsItsAmendment();
        manySignatures();
        manyRefuses();
        manyOfAFullOne();
        manyOfThoseThatStand();
        everIsNotInTheBill();
        noMinutesAreNotNone();
        allSeatsAreOfAllParties();
        Checks.end("BillEdgesTest");
    }
}
