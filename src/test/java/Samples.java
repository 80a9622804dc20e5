/** Offices that the tests begin with. */
final class Samples {
    private Samples() {
    }

    /** CLAUSES 0 to 3, each within the one ahead, TEXTS 10 to 13. */
    static AgendumOffice deep() {
        AgendumOffice o = new AgendumOffice();
        for (int i = 0; i < 4; i++) {
            o.clause(i - 1, 10 + i);
        }
        return o;
    }

    /** So many CLAUSES, one behind the other, TEXTS as their numbers. */
    static AgendumOffice row(int clauses) {
        AgendumOffice o = new AgendumOffice();
        for (int i = 0; i < clauses; i++) {
            o.clause(-1, i);
        }
        return o;
    }

    /** Lets the AMENDMENT be called, as the next one, and PASS. */
    static void pass(AgendumOffice o, int amendment) {
        if (o.many(8) == 0) {
            o.party(1);
        }
        o.vote(0, amendment, 1);
        o.sit(300);
        Checks.due("the next to be called", o.next(), amendment);
        Checks.due("what comes of " + amendment, o.call(), 1);
    }

    /** All that are LAID are voted AYE by PARTY 0. */
    static void ayes(AgendumOffice o) {
        for (int a = 0; a < o.many(2); a++) {
            if (o.ofAmendment(a, 3) == 0) {
                o.vote(0, a, 1);
            }
        }
    }

    /** Four CLAUSES in a row, and five AMENDMENTS TO them of the KIND 2: how each one stands is its number. */
    static AgendumOffice settled() {
        AgendumOffice o = row(4);
        o.lay(2, 3, 100);
        o.lay(2, 0, 101);
        o.lay(2, 1, 102);
        o.lay(2, 0, 103);
        o.lay(2, 2, 104);
        o.withdraw(4);
        o.party(10);
        o.vote(0, 1, 1);
        o.sit(100);
        o.call();
        o.call();
        for (int a = 0; a < 5; a++) {
            Checks.due("how " + a + " stands", o.ofAmendment(a, 3), a);
        }
        return o;
    }

    /** As much as there can be of all: 40 CLAUSES, 20 AMENDMENTS, 5 PARTIES, 12 PETITIONS. */
    static AgendumOffice full() {
        AgendumOffice o = row(40);
        for (int a = 0; a < 20; a++) {
            o.lay(2, a, 999);
        }
        for (int p = 0; p < 5; p++) {
            o.party(99);
        }
        for (int p = 0; p < 12; p++) {
            o.petition(39, 9999);
        }
        return o;
    }
}
