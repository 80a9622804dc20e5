/** Promise 17: what comes of an AMENDMENT that is PUT (sections 2 and 5). */
public final class ConsequencesTest {
    /** Each AMENDMENT as two numbers: how it stands, and by which one it is MOOT. */
    private static void stands(String what, AgendumOffice o, int... due) {
        for (int a = 0; a * 2 < due.length; a++) {
            Checks.due(what + ": how " + a + " stands", o.ofAmendment(a, 3), due[a * 2]);
            Checks.due(what + ": by what " + a + " is moot", o.ofAmendment(a, 4), due[a * 2 + 1]);
        }
    }

    private static void strike() {
        AgendumOffice o = Samples.deep();
        o.clause(-1, 20);
        o.petition(3, 5);
        o.lay(2, 2, 5);
        o.lay(1, 3, 4);
        o.lay(1, 4, 2);
        o.lay(1, 4, 0);
        o.change(0, 6);
        o.lay(0, 3, 0);
        o.lay(2, 4, 5);
        int strike = o.lay(0, 1, 0);
        Checks.due("23: by a strike", o.wouldMoot(strike), 5);
        Samples.pass(o, strike);
        Checks.reads(o, "strike", 0, 4);
        stands("strike", o, 3, strike, 3, strike, 3, strike, 0, -1, 3, 0, 3, strike, 0, -1, 1, -1);
        Checks.due("strike: the petition climbs", o.tied(0), 0);
    }

    private static void move() {
        AgendumOffice o = new AgendumOffice();
        o.clause(-1, 0);
        o.clause(0, 1);
        o.clause(0, 2);
        o.clause(-1, 3);
        o.clause(3, 4);
        o.clause(-1, 5);
        int down = o.lay(1, 0, 4);
        int other = o.lay(1, 0, 5);
        int aim = o.lay(1, 5, 0);
        o.lay(2, 0, 7);
        Checks.due("23: by a move", o.wouldMoot(down), 1);
        Samples.pass(o, down);
        stands("move", o, 1, -1, 3, down, 0, -1, 0, -1);
        Checks.due("move: another one of the same clause", o.ofAmendment(other, 3), 3);
        Checks.reads(o, "move", 3, 4, 0, 1, 2, 5);
        Checks.due("move: the parent", o.ofClause(0, 1), 3);
        Checks.due("move: high", o.ofClause(0, 3) * 10 + o.ofClause(1, 3), 12);
        o.withdraw(3);
        Samples.pass(o, aim);
        Checks.due("move: behind what is below", o.read(5), 5);
        Checks.due("move: the parent of the aim", o.ofClause(5, 1), 3);
        Samples.pass(o, o.lay(1, 2, 3));
        Checks.reads(o, "move up, behind its own parent's parent", 3, 4, 0, 1, 5, 2);
        Samples.pass(o, o.lay(1, 2, 3));
        Checks.reads(o, "move to where it is", 3, 4, 0, 1, 5, 2);
    }

    private static void replace() {
        AgendumOffice o = Samples.row(2);
        o.lay(2, 0, 50);
        o.lay(2, 0, 51);
        o.lay(2, 0, 60);
        o.lay(2, 1, 60);
        o.lay(3, 0, 60);
        int toSame = o.change(1, 50);
        o.change(2, 50);
        o.withdraw(0);
        int first = o.lay(2, 0, 50);
        Checks.due("10: the change goes first", o.next(), toSame);
        Samples.pass(o, toSame);
        o.lay(0, 1, 0);
        Checks.due("23: by a replace, and what was to change that", o.wouldMoot(first), 2);
        Checks.due("23: by its twin", o.wouldMoot(1), 2);
        Samples.pass(o, 1);
        stands("replace", o, 4, -1, 1, -1, 3, 1, 0, -1, 0, -1, 1, -1, 3, 2, 1, -1);
        Checks.due("replace: the text", o.ofClause(0, 0), 50);
    }

    private static void changesOfTwins() {
        AgendumOffice o = Samples.row(1);
        o.lay(2, 0, 50);
        o.lay(2, 0, 50);
        o.change(1, 9);
        Samples.pass(o, 0);
        stands("a twin passes, its change is moot by it", o, 1, -1, 1, -1, 3, 1);
    }

    private static void behindTrains() {
        AgendumOffice o = new AgendumOffice();
        o.clause(-1, 0);
        o.clause(0, 1);
        o.clause(-1, 2);
        o.lay(3, 0, 3);
        Samples.pass(o, 0);
        Checks.reads(o, "behind what is below", 0, 1, 3, 2);
        Samples.pass(o, o.lay(4, 3, 4));
        Samples.pass(o, o.lay(3, 0, 5));
        Checks.reads(o, "behind the first that came so", 0, 1, 3, 4, 5, 2);
        Samples.pass(o, o.lay(3, 3, 6));
        Checks.reads(o, "behind one that came so", 0, 1, 3, 4, 6, 5, 2);
        Samples.pass(o, o.lay(3, 0, 7));
        Checks.reads(o, "6 came not behind 0: as far as it goes", 0, 1, 3, 4, 7, 6, 5, 2);
        Samples.pass(o, o.lay(0, 6, 0));
        Samples.pass(o, o.lay(3, 0, 8));
        Checks.reads(o, "directly behind each other again", 0, 1, 3, 4, 7, 5, 8, 2);
        Samples.pass(o, o.lay(1, 2, 0));
        Samples.pass(o, o.lay(3, 0, 9));
        Checks.reads(o, "none is directly behind", 0, 1, 9, 2, 3, 4, 7, 5, 8);
        Checks.due("9: the clause that came", o.ofAmendment(o.many(2) - 1, 5), 9);
        Checks.due("3: by which it came", o.ofClause(9, 6), o.many(2) - 1);
    }

    private static void trainsWithAnotherParent() {
        AgendumOffice o = new AgendumOffice();
        o.clause(-1, 0);
        o.clause(0, 1);
        Samples.pass(o, o.lay(3, 1, 2));
        Samples.pass(o, o.lay(1, 2, 0));
        Checks.reads(o, "moved out", 0, 1, 2);
        Samples.pass(o, o.lay(3, 1, 3));
        Checks.reads(o, "one that came so, but has another parent now", 0, 1, 3, 2);
        Checks.due("the new one is within", o.ofClause(3, 1), 0);
    }

    private static void tooHighByThen() {
        AgendumOffice o = new AgendumOffice();
        o.clause(-1, 0);
        o.clause(0, 1);
        o.clause(-1, 2);
        o.clause(2, 3);
        o.clause(3, 4);
        o.lay(1, 0, 4);
        o.lay(4, 1, 6);
        o.lay(4, 0, 7);
        Checks.due("11: as long as it is low", o.canBeDone(1), true);
        Samples.pass(o, 0);
        Checks.reads(o, "too high by then", 2, 3, 4, 0, 1);
        Checks.due("11: within the highest", o.canBeDone(1), false);
        Checks.due("11: within one that is high by 2", o.canBeDone(2), true);
        Samples.ayes(o);
        Checks.due("24: one is moot", o.inTheEnd(), 6);
        Checks.due("17: within one that is high by 2", o.call(), 1);
        Checks.due("17: too high by then", o.call(), 3);
        stands("too high by then", o, 1, -1, 3, 1, 1, -1);
        Checks.reads(o, "the last one within", 2, 3, 4, 0, 1, 5);
    }

    private static void mootAsForty() {
        AgendumOffice o = Samples.row(39);
        o.lay(4, 0, 1);
        o.lay(3, 1, 2);
        o.lay(4, 2, 2);
        o.change(1, 7);
        Samples.pass(o, 0);
        Checks.due("26: moot ones are put, too", o.calledAt(2), 2);
        Checks.due("24: forty", o.inTheEnd(), 40);
        Checks.due("11: a change can be done", o.canBeDone(3), true);
        Samples.pass(o, 3);
        o.vote(0, 1, 1);
        Checks.due("17: the 41st behind", o.call(), 3);
        Checks.due("17: the 41st within", o.call(), 3);
        stands("forty", o, 1, -1, 3, 1, 3, 2, 1, -1);
        Checks.due("17: also these take 3 minutes", o.many(10), 294 - 3);
    }

    private static void lostOnes() {
        AgendumOffice o = Samples.row(1);
        o.lay(2, 0, 1);
        o.change(0, 2);
        o.change(0, 3);
        o.party(1);
        o.sit(100);
        Checks.due("17: a change is lost", o.call(), 2);
        stands("a lost change", o, 0, -1, 2, -1, 0, -1);
        o.vote(0, 2, 1);
        Checks.due("17: a change passes", o.call(), 1);
        stands("a passed change", o, 0, -1, 2, -1, 1, -1);
        Checks.due("17: lost", o.call(), 2);
        Checks.due("17: the text stays", o.ofClause(0, 0), 0);
    }

    public static void main(String[] args) {
        strike();
        move();
        replace();
        changesOfTwins();
        behindTrains();
        trainsWithAnotherParent();
        tooHighByThen();
        mootAsForty();
        lostOnes();
        Checks.end("ConsequencesTest");
    }
}
