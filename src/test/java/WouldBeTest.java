/** Promises 22 to 27: what would be. */
public final class WouldBeTest {
    private static void wouldPass() {
        AgendumOffice o = Samples.row(1);
        o.lay(0, 0, 0);
        Checks.due("22: without parties", o.wouldPass(0), false);
        o.party(10);
        o.party(6);
        o.party(4);
        Checks.due("22: none votes", o.wouldPass(0), false);
        o.vote(0, 0, 1);
        Checks.due("22: ayes", o.wouldPass(0), true);
        o.vote(1, 0, -1);
        o.vote(2, 0, -1);
        Checks.due("22: as many noes", o.wouldPass(0), false);
        o.vote(2, 0, 0);
        Checks.due("22: more ayes", o.wouldPass(0), true);
        o.quorum(80);
        Checks.due("22: 16 of 20 are 80 of 100", o.wouldPass(0), true);
        o.quorum(81);
        Checks.due("22: but not 81", o.wouldPass(0), false);
        o.quorum(80);
        o.withdraw(0);
        Checks.due("22: also if it is not laid", o.wouldPass(0), true);
        o.party(1);
        Checks.due("22: of all seats now", o.wouldPass(0), false);
        Checks.outOfBounds(o, "22: no amendment", () -> o.wouldPass(1));
        Checks.outOfBounds(o, "22: -1", () -> o.wouldPass(-1));
    }

    private static void wouldMoot() {
        AgendumOffice o = new AgendumOffice();
        o.clause(-1, 0);
        o.clause(0, 1);
        o.clause(-1, 2);
        o.clause(2, 3);
        o.lay(1, 0, 3);
        o.lay(1, 2, 1);
        o.lay(1, 2, 1);
        o.lay(2, 0, 4);
        o.change(3, 5);
        Checks.due("23: by a move", o.wouldMoot(1), 1);
        Checks.due("23: what was to change it", o.wouldMoot(3), 1);
        Checks.due("23: by a change", o.wouldMoot(4), 0);
        Samples.pass(o, 0);
        Checks.due("23: it cannot be done", o.wouldMoot(1), 0);
        Checks.due("23: it has passed", o.wouldMoot(0), 0);
        Checks.due("23: nothing is changed", o.many(6), 0);
        o.withdraw(3);
        o.lay(0, 2, 0);
        Checks.due("23: not those that were moot before", o.many(6) * 10 + o.wouldMoot(5), 12);
        Checks.outOfBounds(o, "23: no amendment", () -> o.wouldMoot(6));
        Checks.outOfBounds(o, "23: -1", () -> o.wouldMoot(-1));
    }

    /** A strike, and what it makes moot; two new ones; a change. */
    private static AgendumOffice busy() {
        AgendumOffice o = Samples.deep();
        o.clause(-1, 20);
        o.party(5);
        o.party(4);
        o.lay(3, 0, 30);
        o.lay(4, 4, 31);
        o.lay(0, 2, 0);
        o.lay(2, 3, 5);
        o.change(1, 32);
        return o;
    }

    private static void ends() {
        AgendumOffice o = busy();
        Checks.due("24: all are lost", o.inTheEnd(), 5);
        Samples.ayes(o);
        Checks.due("24: without a sitting", o.inTheEnd(), 5);
        o.vote(1, 2, -1);
        Checks.due("24: still more ayes", o.inTheEnd(), 5);
        o.vote(0, 2, 0);
        Checks.due("24: the strike is lost", o.inTheEnd(), 7);
        Checks.due("24: nothing is changed", o.many(3) * 100 + o.many(1), 505);
        Checks.due("24: of an empty one", new AgendumOffice().inTheEnd(), 0);
    }

    private static void otherwise() {
        AgendumOffice o = busy();
        Checks.due("25: nobody votes", o.otherwise(0), 0);
        Samples.ayes(o);
        Checks.due("25: without it, all are lost", o.otherwise(0), 5);
        Checks.due("25: without the other", o.otherwise(1), 0);
        o.vote(1, 2, 1);
        o.vote(1, 3, 1);
        Checks.due("25: without it, others are lost", o.otherwise(0), 3);
        o.vote(0, 0, -1);
        o.vote(1, 0, 1);
        Checks.due("25: without its no, one passes", o.otherwise(0), 3);
        o.quorum(100);
        Checks.due("25: too few vote without it, none passes", o.otherwise(1), 2);
        Checks.due("25: nothing is changed", o.vote(0, 0, 0), -1);
        Checks.outOfBounds(o, "25: no party", () -> o.otherwise(2));
        Checks.outOfBounds(o, "25: -1", () -> o.otherwise(-1));
    }

    private static void calledAt() {
        AgendumOffice o = busy();
        int[] lost = {0, 2, 3, 4, 1};
        for (int k = 0; k < lost.length; k++) {
            Checks.due("26: all are lost: " + k, o.calledAt(k), lost[k]);
        }
        Checks.outOfBounds(o, "26: 5", () -> o.calledAt(5));
        Checks.outOfBounds(o, "26: -1", () -> o.calledAt(-1));
        Checks.outOfBounds(o, "26: the most", () -> o.calledAt(Integer.MAX_VALUE));
        Checks.outOfBounds(o, "26: the least", () -> o.calledAt(Integer.MIN_VALUE));
        Samples.ayes(o);
        Checks.due("26: a moot one is not put", o.calledAt(2), 4);
        Checks.due("26: the last", o.calledAt(3), 1);
        Checks.outOfBounds(o, "26: 4", () -> o.calledAt(4));
        AgendumOffice none = Samples.row(1);
        Checks.outOfBounds(none, "26: none is laid", () -> none.calledAt(0));
        AgendumOffice twenty = Samples.row(1);
        for (int a = 0; a < 20; a++) {
            twenty.lay(2, 0, a);
        }
        Checks.due("26: the twentieth", twenty.calledAt(19), 19);
        Checks.outOfBounds(twenty, "26: 20", () -> twenty.calledAt(20));
    }

    /** In what order the new ones come shows in what is called next. */
    private static void trainsThatWouldBe() {
        AgendumOffice o = new AgendumOffice();
        o.clause(-1, 0);
        o.clause(0, 1);
        Samples.pass(o, o.lay(3, 1, 2));
        Samples.pass(o, o.lay(4, 2, 3));
        int behind = o.lay(3, 1, 4);
        int inside = o.lay(2, 3, 5);
        int move = o.lay(1, 2, 0);
        Samples.ayes(o);
        Checks.due("26: behind", o.calledAt(0), behind);
        Checks.due("26: the move", o.calledAt(1), move);
        Checks.due("26: in what moved", o.calledAt(2), inside);
        Checks.due("24: with the new one", o.inTheEnd(), 5);
    }

    private static void digests() {
        AgendumOffice o = busy();
        o.petition(3, 70);
        o.petition(0, 7);
        Samples.ayes(o);
        o.vote(1, 2, 1);
        Checks.due("27: a busy one", o.digest(), Digests.of(o, 2));
        o.sit(100);
        o.speak(0, 9);
        o.call();
        o.call();
        Checks.due("27: on the way", o.digest(), Digests.of(o, 2));
        while (o.next() != -1) {
            o.call();
        }
        Checks.due("27: as none is LAID", o.digest(), Digests.of(o, 2));
    }

    public static void main(String[] args) {
        wouldPass();
        wouldMoot();
        ends();
        otherwise();
        calledAt();
        trainsThatWouldBe();
        digests();
        Checks.end("WouldBeTest");
    }
}
