/** Offices that the tests begin with. */
final class Samples {
    private Samples() {
    }

    /** CLAUSES 0 to 3, each within the one ahead, TEXTS 10 to 13. */
    static AgendumOffice deep() {
        AgendumOffice o = new AgendumOffice();
        for (int i = 0; i < 4; i++) {
            o.clause(i - 1, 10 + i);
        }
        return o;
    }

    /** So many CLAUSES, one behind the other, TEXTS as their numbers. */
    static AgendumOffice row(int clauses) {
        AgendumOffice o = new AgendumOffice();
        for (int i = 0; i < clauses; i++) {
            o.clause(-1, i);
        }
        return o;
    }

    /** Lets the AMENDMENT be called, as the next one, and PASS. */
    static void pass(AgendumOffice o, int amendment) {
        if (o.many(8) == 0) {
            o.party(1);
        }
        o.vote(0, amendment, 1);
        o.sit(300);
        Checks.due("the next to be called", o.next(), amendment);
        Checks.due("what comes of " + amendment, o.call(), 1);
    }

    /** All that are LAID are voted AYE by PARTY 0. */
    static void ayes(AgendumOffice o) {
        for (int a = 0; a < o.many(2); a++) {
            if (o.ofAmendment(a, 3) == 0) {
                o.vote(0, a, 1);
            }
        }
    }
}
