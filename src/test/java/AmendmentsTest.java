/** Promises 6 to 11: amendments. */
public final class AmendmentsTest {
    private static void facts(String promise, AgendumOffice o, int amendment, int... due) {
        for (int what = 0; what < due.length; what++) {
            Checks.due(promise + ": ofAmendment(" + amendment + ", " + what + ")", o.ofAmendment(amendment, what),
                due[what]);
        }
    }

    private static void lays() {
        AgendumOffice o = Samples.row(3);
        Checks.due("6: a strike", o.lay(0, 1, -77), 0);
        Checks.due("6: a move", o.lay(1, 2, 0), 1);
        Checks.due("6: a replace", o.lay(2, 0, 999), 2);
        Checks.due("6: behind", o.lay(3, 0, 0), 3);
        Checks.due("6: within", o.lay(4, 0, 5), 4);
        facts("6", o, 0, 0, 1, -1, 0, -1, -1);
        facts("6", o, 1, 1, 2, 0, 0, -1, -1);
        facts("6", o, 2, 2, 0, 999, 0, -1, -1);
        facts("6", o, 3, 3, 0, 0, 0, -1, -1);
        facts("6", o, 4, 4, 0, 5, 0, -1, -1);
    }

    private static void refusesToLay() {
        AgendumOffice o = Samples.deep();
        o.clause(-1, 20);
        Checks.badArgument(o, "6: kind 5", () -> o.lay(5, 0, 0));
        Checks.badArgument(o, "6: kind -1", () -> o.lay(-1, 0, 0));
        for (int kind = 2; kind <= 4; kind++) {
            int k = kind;
            Checks.badArgument(o, "6: text 1000", () -> o.lay(k, 0, 1000));
            Checks.badArgument(o, "6: text -1", () -> o.lay(k, 0, -1));
            Checks.badArgument(o, "6: a bad text ahead of no clause", () -> o.lay(k, 9, -1));
        }
        Checks.outOfBounds(o, "6: no clause", () -> o.lay(0, 5, 0));
        Checks.outOfBounds(o, "6: clause -1", () -> o.lay(0, -1, 0));
        Checks.outOfBounds(o, "6: no aim", () -> o.lay(1, 0, 5));
        Checks.outOfBounds(o, "6: aim -1", () -> o.lay(1, 0, -1));
        Checks.badState(o, "6: the aim is itself", () -> o.lay(1, 1, 1));
        Checks.badState(o, "6: the aim is below it", () -> o.lay(1, 1, 3));
        Checks.badState(o, "6: within the highest", () -> o.lay(4, 3, 0));
        Checks.due("6: behind the highest fits", o.lay(3, 3, 0), 0);
        Checks.due("6: a move that just fits", o.lay(1, 4, 3), 1);
        Samples.pass(o, o.lay(0, 2, 0));
        Checks.outOfBounds(o, "6: a struck clause", () -> o.lay(0, 3, 0));
        Checks.outOfBounds(o, "6: a struck aim", () -> o.lay(1, 4, 2));
    }

    private static void movesTooHigh() {
        AgendumOffice o = new AgendumOffice();
        o.clause(-1, 0);
        o.clause(0, 0);
        o.clause(1, 0);
        o.clause(-1, 0);
        o.clause(3, 0);
        o.clause(4, 0);
        Checks.badState(o, "6: two below, behind one that is high by 2", () -> o.lay(1, 3, 2));
        Checks.due("6: two below, behind one that is high by 1", o.lay(1, 3, 1), 0);
        Checks.due("6: a lower place", o.lay(1, 2, 0), 1);
        Checks.due("6: behind its own parent", o.lay(1, 1, 0), 2);
    }

    private static void limitsOfLay() {
        AgendumOffice full = Samples.row(40);
        Checks.badState(full, "6: behind with 40", () -> full.lay(3, 0, 0));
        Checks.badState(full, "6: within with 40", () -> full.lay(4, 0, 0));
        for (int i = 0; i < 20; i++) {
            Checks.due("6: replace with 40", full.lay(2, i, 0), i);
        }
        full.withdraw(0);
        Checks.badState(full, "6: there were 20 ever", () -> full.lay(2, 0, 0));
    }

    private static void changes() {
        AgendumOffice o = Samples.row(2);
        for (int kind = 0; kind <= 4; kind++) {
            o.lay(kind, 0, 1);
        }
        Checks.due("7: of a replace", o.change(2, 0), 5);
        Checks.due("7: of behind", o.change(3, 999), 6);
        Checks.due("7: of within", o.change(4, 7), 7);
        Checks.due("7: one more", o.change(4, 8), 8);
        facts("7", o, 7, 5, 4, 7, 0, -1, -1);
        Checks.outOfBounds(o, "7: no amendment", () -> o.change(9, 0));
        Checks.outOfBounds(o, "7: -1, ahead of a bad text", () -> o.change(-1, 1000));
        Checks.badArgument(o, "7: text 1000", () -> o.change(2, 1000));
        Checks.badArgument(o, "7: text -1, ahead of a strike", () -> o.change(0, -1));
        Checks.badState(o, "7: of a strike", () -> o.change(0, 0));
        Checks.badState(o, "7: of a move", () -> o.change(1, 0));
        Checks.badState(o, "7: of a change", () -> o.change(5, 0));
        o.withdraw(2);
        Checks.badState(o, "7: of one withdrawn", () -> o.change(2, 0));
    }

    private static void changesTheText() {
        AgendumOffice o = Samples.row(1);
        o.lay(3, 0, 50);
        Samples.pass(o, o.change(0, 60));
        Checks.due("7: the text of the amendment", o.ofAmendment(0, 2), 60);
        Samples.pass(o, 0);
        Checks.due("7: the text of the new clause", o.ofClause(1, 0), 60);
        facts("7: what came", o, 0, 3, 0, 60, 1, -1, 1);
    }

    private static void withdraws() {
        AgendumOffice o = Samples.row(2);
        o.lay(2, 0, 1);
        o.lay(2, 0, 1);
        o.change(0, 5);
        o.change(1, 6);
        o.change(0, 7);
        Checks.due("8: a change", o.withdraw(2), 0);
        facts("8: a change", o, 2, 5, 0, 5, 4, -1, -1);
        Checks.due("8: with one change", o.withdraw(0), 1);
        facts("8", o, 0, 2, 0, 1, 4, -1, -1);
        facts("8: moot by it", o, 4, 5, 0, 7, 3, 0, -1);
        facts("8: of another one", o, 3, 5, 1, 6, 0, -1, -1);
        Checks.outOfBounds(o, "8: no amendment", () -> o.withdraw(5));
        Checks.outOfBounds(o, "8: -1", () -> o.withdraw(-1));
        Checks.badState(o, "8: again", () -> o.withdraw(0));
        Checks.badState(o, "8: a moot one", () -> o.withdraw(4));
        Checks.due("8: not those that were moot before", o.withdraw(1), 1);
    }

    private static void factsOfAmendments() {
        AgendumOffice o = Samples.row(2);
        o.lay(4, 1, 3);
        o.lay(0, 1, 3);
        Samples.pass(o, 1);
        facts("9: passed", o, 1, 0, 1, -1, 1, -1, -1);
        facts("9: moot", o, 0, 4, 1, 3, 3, 1, -1);
        o.lay(2, 0, 4);
        o.call();
        facts("9: lost", o, 2, 2, 0, 4, 2, -1, -1);
        Checks.outOfBounds(o, "9: no amendment", () -> o.ofAmendment(3, 0));
        Checks.outOfBounds(o, "9: -1 ahead of a bad what", () -> o.ofAmendment(-1, 6));
        Checks.badArgument(o, "9: what 6", () -> o.ofAmendment(0, 6));
        Checks.badArgument(o, "9: what -1", () -> o.ofAmendment(0, -1));
    }

    private static void followsInOrder() {
        AgendumOffice o = Samples.row(3);
        o.lay(2, 2, 0);
        o.lay(4, 1, 0);
        o.lay(3, 1, 0);
        o.lay(3, 1, 1);
        o.lay(1, 0, 2);
        o.change(3, 8);
        o.change(2, 8);
        o.change(2, 9);
        int[] due = {4, 6, 7, 2, 5, 3, 1, 0};
        for (int k = 0; k < due.length; k++) {
            Checks.due("10: the next behind " + k + " others", o.next(), due[k]);
            o.withdraw(due[k]);
        }
        Checks.due("10: none is laid", o.next(), -1);
        AgendumOffice moved = Samples.row(2);
        moved.lay(2, 0, 9);
        moved.lay(2, 1, 9);
        Samples.pass(moved, moved.lay(1, 0, 1));
        Checks.due("10: by the numbers of the clauses now", moved.next(), 1);
    }

    private static void canBeDoneOrNot() {
        AgendumOffice o = new AgendumOffice();
        o.clause(-1, 0);
        o.clause(0, 1);
        o.clause(-1, 2);
        o.lay(1, 0, 2);
        o.lay(4, 0, 9);
        o.lay(1, 2, 1);
        o.change(1, 5);
        Checks.due("11: a move", o.canBeDone(0), true);
        Checks.due("11: a change", o.canBeDone(3), true);
        Checks.due("11: within", o.canBeDone(1), true);
        o.withdraw(1);
        Checks.due("11: withdrawn", o.canBeDone(1), false);
        Checks.due("11: a change that is moot", o.canBeDone(3), false);
        o.withdraw(0);
        Samples.pass(o, 2);
        Checks.due("11: passed", o.canBeDone(2), false);
        Checks.outOfBounds(o, "11: no amendment", () -> o.canBeDone(9));
        Checks.outOfBounds(o, "11: -1", () -> o.canBeDone(-1));
    }

    private static void cannotBeDoneAnyMore() {
        AgendumOffice o = new AgendumOffice();
        o.clause(-1, 0);
        o.clause(0, 1);
        o.clause(-1, 2);
        o.clause(2, 3);
        o.lay(1, 0, 3);
        o.lay(1, 2, 1);
        Checks.due("11: as long as the aim is not below it", o.canBeDone(1), true);
        Samples.pass(o, 0);
        Checks.reads(o, "11", 2, 3, 0, 1);
        Checks.due("11: the aim came below it", o.canBeDone(1), false);
        o.vote(0, 1, 1);
        Checks.due("17: what cannot be done is moot", o.call(), 3);
        facts("9: moot by itself", o, 1, 1, 2, 1, 3, 1, -1);
    }

    public static void main(String[] args) {
        lays();
        refusesToLay();
        movesTooHigh();
        limitsOfLay();
        changes();
        changesTheText();
        withdraws();
        factsOfAmendments();
        followsInOrder();
        canBeDoneOrNot();
        cannotBeDoneAnyMore();
        Checks.end("AmendmentsTest");
    }
}
