/** Promises 12 to 18: parties, votes and sittings. */
public final class PartiesTest {
    private static void parties() {
        AgendumOffice o = new AgendumOffice();
        Checks.due("12: the first", o.party(1), 0);
        Checks.due("12: the second", o.party(99), 1);
        Checks.badArgument(o, "12: no seats", () -> o.party(0));
        Checks.badArgument(o, "12: 100 seats", () -> o.party(100));
        o.party(3);
        o.party(4);
        Checks.due("12: the fifth", o.party(5), 4);
        Checks.badState(o, "12: a sixth", () -> o.party(6));
        Checks.badArgument(o, "12: bad seats ahead of a sixth", () -> o.party(0));
        Checks.due("12: all seats", o.many(9), 112);
    }

    private static void votes() {
        AgendumOffice o = Samples.row(1);
        o.party(10);
        o.party(10);
        o.lay(0, 0, 0);
        o.lay(2, 0, 0);
        Checks.due("13: none before", o.vote(0, 0, 1), 0);
        Checks.due("13: aye before", o.vote(0, 0, -1), 1);
        Checks.due("13: no before", o.vote(0, 0, 0), -1);
        Checks.due("13: of the other one", o.vote(0, 1, 1), 0);
        Checks.due("13: by the other one", o.vote(1, 0, 1), 0);
        Checks.outOfBounds(o, "13: no party", () -> o.vote(2, 0, 1));
        Checks.outOfBounds(o, "13: party -1", () -> o.vote(-1, 0, 1));
        Checks.outOfBounds(o, "13: no amendment", () -> o.vote(0, 2, 1));
        Checks.outOfBounds(o, "13: amendment -1 ahead of a bad vote", () -> o.vote(0, -1, 2));
        Checks.badArgument(o, "13: 2", () -> o.vote(0, 0, 2));
        Checks.badArgument(o, "13: -2", () -> o.vote(0, 0, -2));
        o.withdraw(1);
        Checks.badState(o, "13: not laid", () -> o.vote(0, 1, 0));
        Checks.badArgument(o, "13: a bad vote ahead of not laid", () -> o.vote(0, 1, 2));
    }

    private static void quorums() {
        AgendumOffice o = Samples.row(1);
        o.party(1);
        o.party(2);
        o.lay(0, 0, 0);
        o.vote(0, 0, 1);
        Checks.due("14: 0 at first", o.quorum(33), 0);
        Checks.due("14: 1 of 3 is enough for 33", o.wouldPass(0), true);
        Checks.due("14: the one before", o.quorum(34), 33);
        Checks.due("14: 1 of 3 is too few for 34", o.wouldPass(0), false);
        Checks.badArgument(o, "14: 101", () -> o.quorum(101));
        Checks.badArgument(o, "14: -1", () -> o.quorum(-1));
        Checks.due("14: unchanged by these", o.quorum(100), 34);
        o.vote(1, 0, 1);
        Checks.due("14: all of 3 are enough for 100", o.wouldPass(0), true);
        o.vote(1, 0, -1);
        o.quorum(0);
        Checks.due("14: fewer ayes", o.wouldPass(0), false);
    }

    private static void sittings() {
        AgendumOffice o = Samples.row(1);
        Checks.badState(o, "15: no party", () -> o.sit(10));
        Checks.badArgument(o, "15: bad minutes ahead of no party", () -> o.sit(301));
        o.party(1);
        o.party(2);
        Checks.due("18: no share without a sitting", o.ofParty(0, 1), -1);
        Checks.due("15: none ahead", o.sit(200), 0);
        Checks.due("15: a share, cut", o.ofParty(0, 1), 66);
        Checks.due("15: a share, cut", o.ofParty(1, 1), 133);
        o.party(3);
        Checks.due("15: one that came later", o.ofParty(2, 1), 0);
        o.lay(0, 0, 0);
        o.speak(1, 50);
        Checks.due("15: what is left of the one ahead", o.sit(300), 150);
        Checks.due("15: a new share", o.ofParty(1, 1), 100);
        Checks.due("15: now it is there", o.ofParty(2, 1), 150);
        Checks.badArgument(o, "15: 301", () -> o.sit(301));
        Checks.badArgument(o, "15: -1", () -> o.sit(-1));
        Checks.due("15: all of it", o.sit(0), 300);
        Checks.due("15: a share of nothing", o.ofParty(1, 1), 0);
        Checks.due("15: a sitting of no minutes", o.many(10), 0);
    }

    private static void speaks() {
        AgendumOffice o = Samples.row(2);
        o.party(1);
        o.party(1);
        o.lay(0, 0, 0);
        o.lay(0, 1, 0);
        Checks.badState(o, "16: no sitting", () -> o.speak(0, 1));
        o.sit(20);
        Checks.due("16: what is left of the share", o.speak(0, 4), 6);
        Checks.due("16: all of the share", o.speak(0, 6), 0);
        Checks.due("16: of the sitting", o.many(10), 10);
        Checks.due("16: spoken ever", o.ofParty(0, 2), 10);
        Checks.badState(o, "16: nothing is left of the share", () -> o.speak(0, 1));
        Checks.badState(o, "16: more than the share", () -> o.speak(1, 11));
        Checks.badState(o, "16: much more", () -> o.speak(1, Integer.MAX_VALUE));
        o.call();
        Checks.due("17: the share stays", o.ofParty(1, 1), 10);
        Checks.badState(o, "16: more than is left of the sitting", () -> o.speak(1, 8));
        Checks.outOfBounds(o, "16: no party", () -> o.speak(2, 1));
        Checks.outOfBounds(o, "16: -1 ahead of bad minutes", () -> o.speak(-1, 0));
        Checks.badArgument(o, "16: 0", () -> o.speak(1, 0));
        Checks.badArgument(o, "16: less than 0", () -> o.speak(0, Integer.MIN_VALUE));
        Checks.due("16: all that is left of the sitting", o.speak(1, 7), 3);
        o.sit(20);
        Checks.due("18: spoken in both sittings", o.speak(1, 1) * 100 + o.ofParty(1, 2), 908);
        o.withdraw(1);
        Checks.badState(o, "16: no next amendment", () -> o.speak(1, 1));
    }

    private static void calls() {
        AgendumOffice o = Samples.row(2);
        Checks.badState(o, "17: none is laid", () -> o.call());
        o.lay(2, 0, 50);
        o.lay(2, 1, 51);
        o.party(3);
        o.party(3);
        Checks.badState(o, "17: no sitting", () -> o.call());
        o.sit(2);
        Checks.badState(o, "17: 2 minutes", () -> o.call());
        o.sit(3);
        o.vote(0, 0, 1);
        o.vote(1, 0, -1);
        Checks.due("17: as many noes as ayes", o.call(), 2);
        Checks.due("17: 3 minutes are taken", o.many(10), 0);
        Checks.due("17: nothing is done", o.ofClause(0, 0), 0);
        Checks.badState(o, "17: no minutes", () -> o.call());
        o.sit(5);
        o.vote(1, 1, 1);
        Checks.due("17: one aye", o.call(), 1);
        Checks.due("17: it is done", o.ofClause(1, 0), 51);
        Checks.due("17: 3 of 5 minutes", o.many(10), 2);
    }

    private static void factsOfParties() {
        AgendumOffice o = Samples.row(3);
        o.party(7);
        o.party(9);
        o.lay(2, 0, 50);
        o.lay(2, 0, 50);
        o.lay(2, 0, 51);
        o.lay(2, 1, 50);
        o.lay(2, 2, 50);
        o.vote(0, 1, 1);
        o.vote(1, 0, 1);
        o.vote(0, 2, 1);
        o.vote(0, 3, 1);
        o.vote(1, 3, -1);
        o.vote(0, 4, -1);
        o.vote(1, 4, 1);
        o.sit(50);
        while (o.next() != -1) {
            o.call();
        }
        Checks.due("18: seats", o.ofParty(1, 0), 9);
        Checks.due("18: what is left of the share", o.ofParty(0, 1), 21);
        Checks.due("18: never spoke", o.ofParty(0, 2), 0);
        Checks.due("18: also of one that passed with another", o.ofParty(0, 3), 1);
        Checks.due("18: passed by its ayes", o.ofParty(1, 3), 2);
        Checks.outOfBounds(o, "18: no party", () -> o.ofParty(2, 0));
        Checks.outOfBounds(o, "18: -1 ahead of a bad what", () -> o.ofParty(-1, 4));
        Checks.badArgument(o, "18: what 4", () -> o.ofParty(0, 4));
        Checks.badArgument(o, "18: what -1", () -> o.ofParty(0, -1));
    }

    public static void main(String[] args) {
        parties();
        votes();
        quorums();
        sittings();
        speaks();
        calls();
        factsOfParties();
        Checks.end("PartiesTest");
    }
}
