/** Promises 19 to 21 and section 7, where they name an edge: each sentence has a test of its own. */
public final class PetitionEdgesTest {
    private static void signaturesAre1To9999() {
        AgendumOffice o = Samples.row(2);
        Checks.due("19: 1 of SIGNATURES is taken", o.petition(0, 1), 0);
        Checks.due("19: 9999 SIGNATURES are taken", o.petition(1, 9999), 1);
        Checks.due("3: 1", o.ofClause(0, 7), 1);
        Checks.due("3: 9999", o.ofClause(1, 7), 9999);
        for (int signatures : Refusals.outside(1, 9999)) {
            Refusals.badArgument("19: SIGNATURES " + signatures, () -> Samples.row(2), x -> x.petition(1, signatures));
        }
    }

    private static AgendumOffice oneStruck() {
        AgendumOffice o = Samples.row(3);
        Samples.pass(o, o.lay(0, 1, 0));
        return o;
    }

    private static void theClauseMustBeInTheBill() {
        for (int clause : Refusals.outside(0, 2)) {
            Refusals.outOfBounds("19: CLAUSE " + clause, PetitionEdgesTest::oneStruck, o -> o.petition(clause, 1));
        }
        Refusals.outOfBounds("19: a STRUCK CLAUSE", PetitionEdgesTest::oneStruck, o -> o.petition(1, 1));
        Checks.due("19: the first CLAUSE", oneStruck().petition(0, 1), 0);
        Checks.due("19: the last CLAUSE", oneStruck().petition(2, 1), 0);
        Refusals.outOfBounds("19: of an empty BILL", AgendumOffice::new, o -> o.petition(0, 1));
        Refusals.outOfBounds("19: NONE is no CLAUSE", () -> Samples.row(1), o -> o.petition(-1, 1));
    }

    /** So many PETITIONS, of which the first is CLOSED. */
    private static AgendumOffice petitions(int many) {
        AgendumOffice o = Samples.row(3);
        for (int p = 0; p < many; p++) {
            o.petition(p == 0 ? 1 : 0, 1);
        }
        Samples.pass(o, o.lay(0, 1, 0));
        return o;
    }

    private static void thereAreAtMost12() {
        Checks.due("19: the 12th is taken", petitions(11).petition(2, 1), 11);
        Refusals.badState("19: the 13th, also if one is CLOSED", () -> petitions(12), o -> o.petition(2, 1));
        Checks.due("5: one is CLOSED", petitions(12).many(11), 1);
        Refusals.outOfBounds("19: no CLAUSE, ahead of 12", () -> petitions(12), o -> o.petition(3, 1));
        Refusals.outOfBounds("19: a STRUCK CLAUSE, ahead of both", () -> petitions(12), o -> o.petition(1, 0));
        Refusals.badArgument("19: bad SIGNATURES, ahead of 12", () -> petitions(12), o -> o.petition(2, 10000));
        Refusals.outOfBounds("19: no CLAUSE, ahead of bad SIGNATURES", () -> petitions(1), o -> o.petition(3, 0));
    }

    private static void tiedRefuses() {
        for (int petition : Refusals.outside(0, 1)) {
            Refusals.outOfBounds("20: PETITION " + petition, () -> petitions(2), o -> o.tied(petition));
        }
        Refusals.outOfBounds("20: PETITION 12", () -> petitions(12), o -> o.tied(12));
        Checks.due("20: the last of 12", petitions(12).tied(11), 0);
        Checks.due("20: the first, CLOSED", petitions(12).tied(0), -1);
    }

    private static void oneIsTiedToTheFirstAboveInTheBill() {
        for (int struck = 0; struck <= 3; struck++) {
            AgendumOffice o = Samples.deep();
            o.petition(3, 6);
            o.petition(0, 7);
            Samples.pass(o, o.lay(0, struck, 0));
            Checks.due("20: as " + struck + " and all BELOW are STRUCK", o.tied(0), struck - 1);
            Checks.due("20: as it was, but if it is STRUCK", o.tied(1), struck == 0 ? -1 : 0);
            Checks.due("5: CLOSED", o.many(11), struck == 0 ? 2 : 0);
        }
    }

    private static void oneGoesUpByTheParentsOfNow() {
        AgendumOffice o = Samples.deep();
        o.clause(-1, 4);
        o.clause(4, 5);
        o.petition(2, 9);
        Samples.pass(o, o.lay(1, 2, 5));
        Checks.due("20: it stays tied to one that moved", o.tied(0), 2);
        Samples.pass(o, o.lay(0, 2, 0));
        Checks.due("20: to the PARENT that it had then", o.tied(0), 4);
        Checks.due("3: SIGNATURES of that", o.ofClause(4, 7), 9);
        Checks.due("3: none of the PARENT before", o.ofClause(1, 7), 0);
        Samples.pass(o, o.lay(0, 4, 0));
        Checks.due("20: CLOSED", o.tied(0), -1);
        Samples.pass(o, o.lay(4, 0, 7));
        Checks.due("20: it stays CLOSED", o.tied(0), -1);
    }

    private static void aCallWithoutStrikeTiesNothing() {
        AgendumOffice o = Samples.row(2);
        o.petition(0, 5);
        o.lay(0, 0, 0);
        o.party(1);
        o.sit(30);
        Checks.due("17: a STRIKE is LOST", o.call(), 2);
        Checks.due("20: it stays tied", o.tied(0), 0);
        o.lay(0, 0, 0);
        o.vote(0, 1, 1);
        Checks.due("24: nothing is STRUCK but in what would be", o.inTheEnd(), 1);
        Checks.due("20: it stays tied", o.tied(0), 0);
    }

    private static void theMeanIsNotCut() {
        Checks.due("21: without any", new AgendumOffice().meanBelow(), 0.0);
        Checks.due("21: of one", Samples.row(1).meanBelow(), 0.0);
        Checks.due("21: of 40, none BELOW", Samples.row(40).meanBelow(), 0.0);
        AgendumOffice o = Samples.row(2);
        o.clause(1, 1);
        Checks.due("21: 0, 1, 0", o.meanBelow(), 1.0 / 3);
        o.clause(0, 1);
        Checks.due("21: 1, 0, 1, 0", o.meanBelow(), 0.5);
        o.clause(2, 1);
        Checks.due("21: 1, 0, 2, 1, 0", o.meanBelow(), 0.8);
    }

    private static void theMeanOfTheMost() {
        AgendumOffice o = Samples.deep();
        for (int i = 4; i < 40; i++) {
            o.clause(2, i);
        }
        Checks.due("21: 39, 38, 37 and 37 times 0", o.meanBelow(), 114.0 / 40);
        Samples.pass(o, o.lay(0, 2, 0));
        Checks.due("21: 1 and 0", o.meanBelow(), 0.5);
        Samples.pass(o, o.lay(0, 0, 0));
        Checks.due("21: all are STRUCK", o.meanBelow(), 0.0);
    }

    public static void main(String[] args) {
        signaturesAre1To9999();
        theClauseMustBeInTheBill();
        thereAreAtMost12();
        tiedRefuses();
        oneIsTiedToTheFirstAboveInTheBill();
        oneGoesUpByTheParentsOfNow();
        aCallWithoutStrikeTiesNothing();
        theMeanIsNotCut();
        theMeanOfTheMost();
        Checks.end("PetitionEdgesTest");
    }
}
