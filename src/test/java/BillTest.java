/** Promises 1 to 5: a new object, and the bill. */
public final class BillTest {
    private static void newObject() {
        AgendumOffice o = new AgendumOffice();
        for (int what = 0; what <= 11; what++) {
            Checks.due("1: many(" + what + ") of a new office", o.many(what), what == 10 ? -1 : 0);
        }
        Checks.due("1: next() of a new office", o.next(), -1);
        Checks.due("1: digest() of a new office", o.digest(), -5339983100204956548L);
        AgendumOffice other = new AgendumOffice();
        other.clause(-1, 5);
        Checks.due("1: one office knows nothing of another", o.many(0), 0);
    }

    private static void writesInOrder() {
        AgendumOffice o = new AgendumOffice();
        Checks.due("2: the first", o.clause(-1, 0), 0);
        Checks.due("2: the second", o.clause(-1, 999), 1);
        Checks.due("2: within the first", o.clause(0, 7), 2);
        Checks.due("2: within that", o.clause(2, 8), 3);
        Checks.due("2: within the first again, behind what is below", o.clause(0, 9), 4);
        Checks.due("2: at the end", o.clause(-1, 10), 5);
        Checks.due("2: the highest", o.clause(3, 11), 6);
        Checks.reads(o, "2", 0, 2, 3, 6, 4, 1, 5);
    }

    private static void refusesClauses() {
        AgendumOffice o = Samples.deep();
        Checks.outOfBounds(o, "2: no such parent", () -> o.clause(4, 1));
        Checks.outOfBounds(o, "2: parent -2", () -> o.clause(-2, 1));
        Checks.outOfBounds(o, "2: no such parent ahead of a bad text", () -> o.clause(9, 1000));
        Checks.badArgument(o, "2: text 1000", () -> o.clause(-1, 1000));
        Checks.badArgument(o, "2: text -1", () -> o.clause(-1, -1));
        Checks.badArgument(o, "2: a bad text ahead of too high", () -> o.clause(3, 1000));
        Checks.badState(o, "2: higher than 3", () -> o.clause(3, 1));
        AgendumOffice full = Samples.row(40);
        Checks.badState(full, "2: there were 40", () -> full.clause(-1, 1));
        o.lay(0, 3, 0);
        Checks.badState(o, "2: one is laid", () -> o.clause(-1, 1));
        o.withdraw(0);
        Checks.badState(o, "2: one was ever laid", () -> o.clause(-1, 1));
        AgendumOffice struck = Samples.deep();
        Samples.pass(struck, struck.lay(0, 2, 0));
        Checks.outOfBounds(struck, "2: a struck parent", () -> struck.clause(2, 1));
    }

    private static void factsOfClauses() {
        AgendumOffice o = Samples.deep();
        o.clause(-1, 55);
        o.clause(0, 66);
        int[][] due = {{10, -1, 0, 0, 0, 4, -1, 0}, {11, 0, 1, 1, 0, 2, -1, 0}, {12, 1, 2, 2, 0, 1, -1, 0},
            {13, 2, 3, 3, 0, 0, -1, 0}, {55, -1, 5, 0, 0, 0, -1, 0}, {66, 0, 4, 1, 0, 0, -1, 0}};
        for (int clause = 0; clause < due.length; clause++) {
            facts("3", o, clause, due[clause]);
        }
        o.petition(2, 30);
        o.petition(2, 12);
        Checks.due("3: signatures of both petitions", o.ofClause(2, 7), 42);
        Checks.outOfBounds(o, "3: no such clause", () -> o.ofClause(6, 0));
        Checks.outOfBounds(o, "3: clause -1", () -> o.ofClause(-1, 0));
        Checks.outOfBounds(o, "3: no such clause ahead of a bad what", () -> o.ofClause(6, 8));
        Checks.badArgument(o, "3: what 8", () -> o.ofClause(0, 8));
        Checks.badArgument(o, "3: what -1", () -> o.ofClause(0, -1));
    }

    private static void facts(String promise, AgendumOffice o, int clause, int... due) {
        for (int what = 0; what < due.length; what++) {
            Checks.due(promise + ": ofClause(" + clause + ", " + what + ")", o.ofClause(clause, what), due[what]);
        }
    }

    private static void factsOfStruckAndNew() {
        AgendumOffice o = Samples.deep();
        o.clause(-1, 20);
        o.petition(3, 5);
        Samples.pass(o, o.lay(0, 2, 0));
        facts("3 struck", o, 2, 12, 1, -1, 2, 1, 0, -1, 0);
        facts("3 struck below", o, 3, 13, 2, -1, 3, 1, 0, -1, 0);
        facts("3 above the struck", o, 1, 11, 0, 1, 1, 0, 0, -1, 5);
        Samples.pass(o, o.lay(1, 1, 4));
        facts("3 moved", o, 1, 11, -1, 2, 0, 0, 0, -1, 5);
        facts("3 a struck one whose parent moved", o, 2, 12, 1, -1, 2, 1, 0, -1, 0);
        Samples.pass(o, o.lay(4, 1, 77));
        facts("3 new within", o, 5, 77, 1, 3, 1, 0, 0, 2, 0);
        Samples.pass(o, o.lay(2, 5, 78));
        facts("3 replaced", o, 5, 78, 1, 3, 1, 0, 0, 2, 0);
    }

    private static void readsByNumber() {
        AgendumOffice o = Samples.deep();
        Checks.reads(o, "4", 0, 1, 2, 3);
        Checks.outOfBounds(o, "4: behind the last", () -> o.read(4));
        Checks.outOfBounds(o, "4: -1", () -> o.read(-1));
        Samples.pass(o, o.lay(0, 0, 0));
        Checks.outOfBounds(o, "4: of an empty bill", () -> o.read(0));
    }

    private static void counts() {
        AgendumOffice o = Samples.row(3);
        o.party(40);
        o.party(2);
        o.petition(2, 1);
        o.lay(0, 2, 0);
        o.lay(2, 0, 1);
        o.lay(2, 1, 1);
        o.lay(3, 1, 1);
        o.lay(2, 2, 1);
        o.withdraw(1);
        o.vote(0, 0, 1);
        o.sit(20);
        o.call();
        Checks.due("5: a lost one is called first", o.ofAmendment(2, 3), 2);
        o.call();
        o.call();
        o.change(o.lay(4, 0, 3), 4);
        int[] due = {3, 2, 7, 2, 1, 2, 1, 1, 2, 42, 11, 1};
        for (int what = 0; what < due.length; what++) {
            Checks.due("5: many(" + what + ")", o.many(what), due[what]);
        }
        Checks.badArgument(o, "5: what 12", () -> o.many(12));
        Checks.badArgument(o, "5: what -1", () -> o.many(-1));
    }

    public static void main(String[] args) {
        newObject();
        writesInOrder();
        refusesClauses();
        factsOfClauses();
        factsOfStruckAndNew();
        readsByNumber();
        counts();
        Checks.end("BillTest");
    }
}
