/** Promises 19 to 21: petitions, and the mean. */
public final class PetitionsTest {
    private static void petitions() {
        AgendumOffice o = Samples.deep();
        Checks.due("19: the first", o.petition(3, 1), 0);
        Checks.due("19: the second", o.petition(3, 9999), 1);
        Checks.outOfBounds(o, "19: no clause", () -> o.petition(4, 1));
        Checks.outOfBounds(o, "19: -1 ahead of bad signatures", () -> o.petition(-1, 0));
        Checks.badArgument(o, "19: none signed", () -> o.petition(0, 0));
        Checks.badArgument(o, "19: 10000", () -> o.petition(0, 10000));
        for (int p = 2; p < 12; p++) {
            Checks.due("19: one more", o.petition(p % 3, 1), p);
        }
        Checks.badState(o, "19: a thirteenth", () -> o.petition(0, 1));
        Checks.badArgument(o, "19: bad signatures ahead of a thirteenth", () -> o.petition(0, 0));
        Samples.pass(o, o.lay(0, 3, 0));
        Checks.outOfBounds(o, "19: a struck clause", () -> o.petition(3, 1));
    }

    private static void ties() {
        AgendumOffice o = Samples.deep();
        o.clause(-1, 9);
        for (int clause = 0; clause < 5; clause++) {
            o.petition(clause, 1 << clause);
        }
        Checks.due("20: tied", o.tied(3), 3);
        Samples.pass(o, o.lay(0, 2, 0));
        Checks.due("20: its clause was struck", o.tied(2), 1);
        Checks.due("20: with that above it", o.tied(3), 1);
        Checks.due("20: another one", o.tied(1), 1);
        Checks.due("3: their signatures", o.ofClause(1, 7), 14);
        Checks.due("5: none is closed", o.many(11), 0);
        Samples.pass(o, o.lay(1, 1, 4));
        Samples.pass(o, o.lay(0, 0, 0));
        Checks.due("20: closed", o.tied(0), -1);
        Checks.due("20: tied to one that moved", o.tied(2), 1);
        Samples.pass(o, o.lay(0, 1, 0));
        Checks.due("20: closed, too", o.tied(3), -1);
        Checks.due("5: closed", o.many(11), 4);
        Checks.due("20: still tied", o.tied(4), 4);
        Checks.outOfBounds(o, "20: no petition", () -> o.tied(5));
        Checks.outOfBounds(o, "20: -1", () -> o.tied(-1));
    }

    private static void closesAllTheWayUp() {
        AgendumOffice o = Samples.deep();
        o.petition(3, 8);
        Samples.pass(o, o.lay(0, 0, 0));
        Checks.due("20: its clause, and the three above it, were struck at once", o.tied(0), -1);
        Checks.due("5: closed at once", o.many(11), 1);
    }

    private static void means() {
        Checks.due("21: without any", new AgendumOffice().meanBelow(), 0.0);
        AgendumOffice o = Samples.deep();
        Checks.due("21: 3, 2, 1, 0", o.meanBelow(), 1.5);
        o.clause(-1, 1);
        Checks.due("21: 3, 2, 1, 0, 0", o.meanBelow(), 1.2);
        Samples.pass(o, o.lay(0, 2, 0));
        Checks.due("21: 1, 0, 0, not cut", o.meanBelow(), 1.0 / 3);
        Samples.pass(o, o.lay(1, 1, 4));
        Checks.due("21: 0, 0, 0", o.meanBelow(), 0.0);
        for (int clause : new int[] {0, 1, 4}) {
            Samples.pass(o, o.lay(0, clause, 0));
        }
        Checks.due("21: all are struck", o.meanBelow(), 0.0);
    }

    public static void main(String[] args) {
        petitions();
        ties();
        closesAllTheWayUp();
        means();
        Checks.end("PetitionsTest");
    }
}
