/** Promise 17 and sections 2 and 5, where they name an edge: each sentence has a test of its own. */
public final class ConsequenceEdgesTest {
    /** How those from the first on stand, and by which one they are MOOT (NONE, if not). */
    private static void stands(String what, AgendumOffice o, int... due) {
        for (int a = 0; a * 2 < due.length; a++) {
            Checks.due(what + ": how " + a + " stands", o.ofAmendment(a, 3), due[a * 2]);
            Checks.due(what + ": by which " + a + " is MOOT", o.ofAmendment(a, 4), due[a * 2 + 1]);
        }
    }

    /** CLAUSE 0, BELOW it 1 and 2, BELOW 1 also 3; and 4. */
    private static AgendumOffice tree() {
        AgendumOffice o = new AgendumOffice();
        for (int parent : new int[] {-1, 0, 0, 1, -1}) {
            o.clause(parent, 100);
        }
        return o;
    }

    private static void aStrikeTakesAllBelow() {
        AgendumOffice o = tree();
        Samples.pass(o, o.lay(0, 1, 0));
        Checks.reads(o, "one with one BELOW", 0, 2, 4);
        Samples.pass(o, o.lay(0, 4, 0));
        Checks.reads(o, "the last one", 0, 2);
        Samples.pass(o, o.lay(0, 0, 0));
        Checks.reads(o, "all that are left");
        Checks.due("2: NUMBER of a STRUCK one", o.ofClause(2, 2), -1);
        Checks.due("5: none can be next", o.next(), -1);
    }

    private static void aStrikeOfTheFirstMovesUpAllNumbers() {
        AgendumOffice o = tree();
        Samples.pass(o, o.lay(0, 0, 0));
        Checks.reads(o, "one is left", 4);
        Checks.due("2: its NUMBER", o.ofClause(4, 2), 0);
    }

    private static void allToAStruckClauseAreMoot() {
        AgendumOffice o = tree();
        for (int kind = 0; kind <= 4; kind++) {
            o.lay(kind, 3, 4);
        }
        o.lay(0, 1, 0);
        o.lay(2, 1, 7);
        o.lay(0, 1, 0);
        Samples.pass(o, 5);
        stands("5: TO one BELOW, TO the same", o, 3, 5, 3, 5, 3, 5, 3, 5, 3, 5, 1, -1, 3, 5, 3, 5);
    }

    private static void othersStayLaidAsOneIsStruck() {
        AgendumOffice o = tree();
        o.lay(2, 0, 3);
        o.lay(2, 4, 1);
        o.lay(3, 2, 1);
        o.lay(4, 4, 3);
        o.lay(0, 0, 3);
        o.lay(1, 4, 2);
        o.change(1, 5);
        o.change(3, 5);
        o.withdraw(4);
        o.withdraw(0);
        Samples.pass(o, o.lay(0, 1, 0));
        stands("5: a TEXT, or an AMENDMENT, with the number of a STRUCK CLAUSE", o,
            4, -1, 0, -1, 0, -1, 0, -1, 4, -1, 0, -1, 0, -1, 0, -1, 1, -1);
    }

    private static void aMoveWithAStruckAimIsMoot() {
        AgendumOffice o = tree();
        o.lay(1, 4, 3);
        o.lay(1, 4, 1);
        o.lay(1, 4, 0);
        o.lay(1, 2, 1);
        o.lay(1, 3, 2);
        Samples.pass(o, o.lay(0, 1, 0));
        stands("5: with such an AIM", o, 3, 5, 3, 5, 0, -1, 3, 5, 3, 5, 1, -1);
    }

    private static void changesOfWhatIsMootAreMootByThat() {
        AgendumOffice o = tree();
        o.lay(2, 3, 5);
        o.change(0, 6);
        o.change(0, 7);
        o.lay(3, 3, 5);
        o.change(3, 6);
        o.withdraw(4);
        Samples.pass(o, o.lay(0, 1, 0));
        stands("5: by that AMENDMENT", o, 3, 5, 3, 0, 3, 0, 3, 5, 4, -1, 1, -1);
    }

    private static void aMoveMootsMovesOfTheSameClause() {
        AgendumOffice o = tree();
        o.lay(1, 2, 4);
        o.lay(1, 2, 4);
        o.lay(1, 2, 1);
        o.lay(1, 4, 2);
        o.lay(1, 1, 4);
        o.lay(0, 2, 0);
        o.lay(2, 2, 0);
        o.withdraw(5);
        o.withdraw(4);
        Samples.pass(o, 0);
        stands("5: TO the same CLAUSE", o, 1, -1, 3, 0, 3, 0, 0, -1, 4, -1, 4, -1, 0, -1);
        Checks.reads(o, "directly behind the AIM", 0, 1, 3, 4, 2);
    }

    private static void aMoveLeavesThoseWithTheSameAim() {
        AgendumOffice o = Samples.row(4);
        o.lay(1, 0, 3);
        o.lay(1, 1, 3);
        o.lay(1, 2, 3);
        o.lay(1, 3, 0);
        Checks.due("23: none is TO the same CLAUSE", o.wouldMoot(0), 0);
        Samples.pass(o, 0);
        stands("5: the same AIM, the other way round", o, 1, -1, 0, -1, 0, -1, 0, -1);
        Samples.pass(o, 1);
        Samples.pass(o, 2);
        Checks.reads(o, "each directly behind the AIM", 3, 2, 1, 0);
        Samples.pass(o, 3);
        Checks.reads(o, "behind one that moved", 2, 1, 0, 3);
    }

    private static void aMoveGoesBehindAllBelowTheAim() {
        AgendumOffice o = tree();
        Samples.pass(o, o.lay(1, 4, 1));
        Checks.reads(o, "behind what is BELOW the AIM", 0, 1, 3, 4, 2);
        Checks.due("2: the same PARENT as that", o.ofClause(4, 1), 0);
        Checks.due("2: as HIGH as that", o.ofClause(4, 3), 1);
        Samples.pass(o, o.lay(1, 1, 0));
        Checks.reads(o, "out, with what is BELOW it", 0, 4, 2, 1, 3);
        Checks.due("2: PARENT NONE", o.ofClause(1, 1), -1);
        Checks.due("2: HIGH 0", o.ofClause(1, 3), 0);
        Checks.due("2: what is BELOW it keeps its PARENT", o.ofClause(3, 1), 1);
        Checks.due("2: but is less HIGH", o.ofClause(3, 3), 1);
        Samples.pass(o, o.lay(1, 0, 1));
        Checks.reads(o, "to the end", 1, 3, 0, 4, 2);
        Samples.pass(o, o.lay(1, 1, 0));
        Checks.reads(o, "to the end again", 0, 4, 2, 1, 3);
    }

    private static void aReplaceMootsThoseWithAnotherText() {
        AgendumOffice o = tree();
        o.lay(2, 0, 0);
        o.lay(2, 0, 999);
        o.lay(2, 0, 0);
        o.lay(2, 1, 999);
        o.lay(2, 1, 0);
        o.lay(3, 0, 999);
        o.lay(4, 0, 999);
        Samples.pass(o, 0);
        stands("5: another TEXT", o, 1, -1, 3, 0, 1, -1, 0, -1, 0, -1, 0, -1, 0, -1);
        Checks.due("2: TEXT 0", o.ofClause(0, 0), 0);
        Checks.due("2: the TEXT of another CLAUSE stays", o.ofClause(1, 0), 100);
    }

    private static void oneWithTheSameTextPassesWithoutAVote() {
        AgendumOffice o = tree();
        o.lay(2, 0, 7);
        o.lay(2, 0, 7);
        o.party(1);
        o.party(2);
        o.vote(0, 0, 1);
        o.vote(1, 1, -1);
        o.sit(5);
        Checks.due("22: it would not PASS by itself", o.wouldPass(1), false);
        Checks.due("17: the first", o.call(), 1);
        stands("5: it PASSES with it", o, 1, -1, 1, -1);
        Checks.due("5: one call takes 3 MINUTES", o.many(10), 2);
        Checks.due("5: none is LAID", o.many(3), 0);
    }

    private static void aReplaceByTheTextThereIsPassesToo() {
        AgendumOffice o = tree();
        o.lay(2, 0, 100);
        o.lay(2, 0, 101);
        Samples.pass(o, 0);
        stands("5: the TEXT that it had", o, 1, -1, 3, 0);
    }

    private static void aNewOneMootsNothing() {
        for (int kind = 3; kind <= 4; kind++) {
            AgendumOffice o = tree();
            o.lay(kind, 0, 5);
            o.lay(kind, 0, 5);
            o.lay(kind, 0, 6);
            o.lay(1, 0, 4);
            o.withdraw(3);
            Checks.due("23: by a new one", o.wouldMoot(0), 0);
            Samples.pass(o, 0);
            stands("5: with 3 and 4 nothing", o, 1, -1, 0, -1, 0, -1, 4, -1);
        }
    }

    /** CLAUSE 1 is another thing than AMENDMENT 1. */
    private static void whatIsToAClauseChangesNoAmendment() {
        for (int kind = 1; kind <= 4; kind++) {
            AgendumOffice o = tree();
            o.lay(2, 4, 51);
            o.lay(2, 4, 52);
            Samples.pass(o, o.lay(kind, 1, 2));
            Checks.due("2: the TEXT of AMENDMENT 0, after the KIND " + kind, o.ofAmendment(0, 2), 51);
            Checks.due("2: the TEXT of AMENDMENT 1, after the KIND " + kind, o.ofAmendment(1, 2), 52);
            stands("5: those TO another CLAUSE", o, 0, -1, 0, -1, 1, -1);
        }
    }

    private static void aChangeIsToNoClause() {
        AgendumOffice o = tree();
        o.lay(3, 0, 51);
        Samples.pass(o, o.change(0, 52));
        for (int clause = 0; clause < 5; clause++) {
            Checks.due("2: the TEXT of CLAUSE " + clause, o.ofClause(clause, 0), 100);
        }
        Checks.due("9: KIND 5", o.ofAmendment(1, 0), 5);
        Checks.due("9: the AMENDMENT TO which it is", o.ofAmendment(1, 1), 0);
        Checks.due("9: no CLAUSE came by it", o.ofAmendment(1, 5), -1);
        Samples.pass(o, 0);
        Checks.due("2: the new one has the CHANGED TEXT", o.ofClause(5, 0), 52);
    }

    private static void aChangeMootsNothing() {
        AgendumOffice o = tree();
        o.lay(2, 0, 5);
        o.change(0, 6);
        o.change(0, 6);
        o.change(0, 7);
        o.lay(2, 0, 6);
        Checks.due("23: by a CHANGE", o.wouldMoot(1), 0);
        Samples.pass(o, 1);
        stands("5: with 5 nothing", o, 0, -1, 1, -1, 0, -1, 0, -1, 0, -1);
        Checks.due("2: the TEXT of the AMENDMENT", o.ofAmendment(0, 2), 6);
        Checks.due("2: the TEXT of the CLAUSE stays", o.ofClause(0, 0), 100);
        Samples.pass(o, 2);
        Samples.pass(o, 3);
        Checks.due("2: the last CHANGE holds", o.ofAmendment(0, 2), 7);
        Checks.due("10: the one TO which they were", o.next(), 0);
    }

    private static void aChangedTextDecidesWhoPassesWithIt() {
        AgendumOffice o = tree();
        o.lay(2, 0, 5);
        o.lay(2, 0, 6);
        o.lay(2, 0, 5);
        o.change(0, 6);
        Checks.due("23: as the TEXT is now", o.wouldMoot(0), 2);
        Samples.pass(o, 3);
        Checks.due("23: as the TEXT is CHANGED", o.wouldMoot(0), 1);
        Samples.pass(o, 0);
        stands("5: by the TEXTS of now", o, 1, -1, 1, -1, 3, 0, 1, -1);
        Checks.due("2: the TEXT of the CLAUSE", o.ofClause(0, 0), 6);
    }

    private static void whatCannotBeDoneIsMootByItself() {
        AgendumOffice o = Samples.row(39);
        o.lay(3, 0, 1);
        o.lay(3, 1, 2);
        o.change(1, 3);
        o.lay(4, 1, 2);
        Samples.pass(o, 0);
        Samples.pass(o, 2);
        o.change(1, 9);
        Checks.due("23: it cannot be DONE", o.wouldMoot(1), 0);
        o.withdraw(4);
        Checks.due("17: the first that cannot be DONE", o.call(), 3);
        stands("5: MOOT by itself", o, 1, -1, 3, 1, 1, -1, 0, -1, 4, -1);
    }

    /** CLAUSE 3, HIGH 1, is STRUCK from the end of the BILL: 2 can go where it could not with 3 BELOW it. */
    private static void whatIsStruckHindersNoMove() {
        AgendumOffice o = new AgendumOffice();
        for (int parent : new int[] {-1, 0, -1, 2}) {
            o.clause(parent, 100);
        }
        Samples.pass(o, o.lay(4, 1, 5));
        Samples.pass(o, o.lay(4, 4, 6));
        Checks.reads(o, "5 is HIGH 3", 0, 1, 4, 5, 2, 3);
        Checks.badState(o, "6: 3 would be HIGH 4", () -> o.lay(1, 2, 5));
        Samples.pass(o, o.lay(0, 3, 0));
        Samples.pass(o, o.lay(1, 2, 5));
        Checks.reads(o, "alone, behind one that is HIGH 3", 0, 1, 4, 5, 2);
        Checks.due("3: HIGH 3", o.ofClause(2, 3), 3);
        Checks.due("3: the STRUCK one as it was", o.ofClause(3, 3), 1);
    }

    private static void anAimThatCameBelowIsNoneAnyMore() {
        AgendumOffice o = Samples.row(2);
        Samples.pass(o, o.lay(4, 1, 5));
        int move = o.lay(1, 1, 0);
        int below = o.lay(1, 0, 2);
        Checks.due("26: the MOVE would be PUT, though it could not be DONE", o.calledAt(1), move);
        Samples.pass(o, below);
        Checks.reads(o, "0 is BELOW 1", 1, 2, 0);
        Checks.due("3: BELOW 1", o.ofClause(1, 5), 2);
        Checks.due("11: its AIM is BELOW it", o.canBeDone(move), false);
        Checks.due("23: it cannot be DONE", o.wouldMoot(move), 0);
        o.vote(0, move, 1);
        Checks.due("17: it cannot be DONE any more", o.call(), 3);
        stands("5: MOOT by itself", o, 1, -1, 3, move, 1, -1);
        Checks.reads(o, "nothing is DONE", 1, 2, 0);
    }

    private static void whatCouldNotBeDoneCanBeAgain() {
        AgendumOffice o = Samples.deep();
        for (int parent : new int[] {-1, 4, -1, 6}) {
            o.clause(parent, 100);
        }
        int move = o.lay(1, 6, 5);
        Samples.pass(o, o.lay(1, 4, 2));
        Checks.due("3: the AIM is HIGH 3", o.ofClause(5, 3), 3);
        Checks.due("11: with one BELOW it", o.canBeDone(move), false);
        Samples.pass(o, o.lay(1, 4, 0));
        Checks.due("3: the AIM is HIGH 1", o.ofClause(5, 3), 1);
        Checks.due("11: it can be DONE again", o.canBeDone(move), true);
        Samples.pass(o, move);
        Checks.reads(o, "behind its AIM", 0, 1, 2, 3, 4, 5, 6, 7);
        Checks.due("2: the same PARENT as that", o.ofClause(6, 1), 4);
    }

    private static void aNewOneBehindGoesBehindWhatIsBelow() {
        AgendumOffice o = tree();
        Samples.pass(o, o.lay(3, 1, 5));
        Checks.reads(o, "BEHIND one with one BELOW", 0, 1, 3, 5, 2, 4);
        Samples.pass(o, o.lay(3, 4, 6));
        Checks.reads(o, "BEHIND the last one", 0, 1, 3, 5, 2, 4, 6);
        Samples.pass(o, o.lay(3, 4, 7));
        Checks.reads(o, "behind the one that came so before", 0, 1, 3, 5, 2, 4, 6, 7);
        Samples.pass(o, o.lay(3, 0, 8));
        Checks.reads(o, "BEHIND the first one", 0, 1, 3, 5, 2, 8, 4, 6, 7);
        Checks.due("2: the same PARENT", o.ofClause(5, 1), 0);
        Checks.due("2: the same PARENT, NONE", o.ofClause(8, 1), -1);
        Checks.due("2: that TEXT", o.ofClause(5, 0), 5);
    }

    private static void aNewOneWithinIsTheLast() {
        AgendumOffice o = tree();
        Samples.pass(o, o.lay(4, 0, 5));
        Checks.reads(o, "WITHIN one that has some", 0, 1, 3, 2, 5, 4);
        Samples.pass(o, o.lay(4, 1, 6));
        Checks.reads(o, "WITHIN one in the middle", 0, 1, 3, 6, 2, 5, 4);
        Samples.pass(o, o.lay(4, 4, 7));
        Checks.reads(o, "WITHIN the last one, which has none", 0, 1, 3, 6, 2, 5, 4, 7);
        Samples.pass(o, o.lay(4, 3, 8));
        Checks.reads(o, "WITHIN one that is HIGH 2", 0, 1, 3, 8, 6, 2, 5, 4, 7);
        Checks.due("2: HIGH 3", o.ofClause(8, 3), 3);
        Checks.due("2: its PARENT", o.ofClause(8, 1), 3);
    }

    /** One that came WITHIN, or was written there, is none that came BEHIND. */
    private static void othersBreakTheTrain() {
        AgendumOffice o = Samples.row(2);
        Samples.pass(o, o.lay(3, 0, 5));
        Samples.pass(o, o.lay(1, 1, 0));
        Checks.reads(o, "one that was written is directly behind", 0, 1, 2);
        Samples.pass(o, o.lay(3, 0, 6));
        Checks.reads(o, "directly behind it, as none is that came so", 0, 3, 1, 2);
        Samples.pass(o, o.lay(3, 0, 7));
        Checks.reads(o, "as far as the written one", 0, 3, 4, 1, 2);
        Samples.pass(o, o.lay(0, 1, 0));
        Samples.pass(o, o.lay(3, 0, 8));
        Checks.reads(o, "all that came so are one behind the other again", 0, 3, 4, 2, 5);
    }

    /** One that came so BEHIND another CLAUSE is none that came so BEHIND this. */
    private static void eachHasItsOwnTrain() {
        AgendumOffice o = Samples.row(2);
        Samples.pass(o, o.lay(3, 1, 5));
        Samples.pass(o, o.lay(1, 2, 0));
        Checks.reads(o, "one that came BEHIND 1 is directly behind 0", 0, 2, 1);
        Samples.pass(o, o.lay(3, 0, 6));
        Checks.reads(o, "it is none that came BEHIND 0", 0, 3, 2, 1);
        Samples.pass(o, o.lay(3, 2, 7));
        Checks.reads(o, "BEHIND a new one", 0, 3, 2, 4, 1);
        Samples.pass(o, o.lay(3, 0, 8));
        Checks.reads(o, "as far as the one of another CLAUSE", 0, 3, 5, 2, 4, 1);
    }

    /** It is asked where they are now, not by what way they came there. */
    private static void whatMovedAwayAndBackIsOfTheTrain() {
        AgendumOffice o = Samples.row(2);
        Samples.pass(o, o.lay(3, 0, 5));
        Samples.pass(o, o.lay(3, 0, 6));
        Samples.pass(o, o.lay(1, 2, 3));
        Checks.reads(o, "the other way round", 0, 3, 2, 1);
        Samples.pass(o, o.lay(3, 0, 7));
        Checks.reads(o, "behind both", 0, 3, 2, 4, 1);
        Samples.pass(o, o.lay(1, 3, 1));
        Samples.pass(o, o.lay(3, 0, 8));
        Checks.reads(o, "one moved away", 0, 2, 4, 5, 1, 3);
        Samples.pass(o, o.lay(1, 3, 0));
        Samples.pass(o, o.lay(3, 0, 9));
        Checks.reads(o, "and back", 0, 3, 2, 4, 5, 6, 1);
        Samples.pass(o, o.lay(1, 0, 1));
        Samples.pass(o, o.lay(3, 0, 10));
        Checks.reads(o, "the CLAUSE itself moved away", 3, 2, 4, 5, 6, 1, 0, 7);
    }

    /** CLAUSE 0 comes to be within 1, so that a PARENT has a smaller number than what is BELOW it. */
    private static void oneThatMovedOutBreaksTheTrain() {
        AgendumOffice o = Samples.row(2);
        Samples.pass(o, o.lay(4, 1, 5));
        Samples.pass(o, o.lay(4, 0, 6));
        Samples.pass(o, o.lay(1, 0, 2));
        Checks.reads(o, "0 came within 1", 1, 2, 0, 3);
        Samples.pass(o, o.lay(3, 3, 7));
        Samples.pass(o, o.lay(1, 4, 0));
        Checks.reads(o, "what came BEHIND 3 moved out, and directly behind", 1, 2, 0, 3, 4);
        Checks.due("2: it has another PARENT than 3", o.ofClause(4, 1) * 10 + o.ofClause(3, 1), 10);
        Samples.pass(o, o.lay(3, 3, 8));
        Checks.reads(o, "directly behind 3, with its PARENT", 1, 2, 0, 3, 5, 4);
        Checks.due("2: the same PARENT", o.ofClause(5, 1), 0);
        Checks.due("3: BELOW that", o.ofClause(0, 5), 2);
    }

    /** What would be leaves no trace in what came BEHIND what. */
    private static void whatWouldBeBreaksNoTrain() {
        AgendumOffice o = Samples.row(2);
        Samples.pass(o, o.lay(3, 0, 5));
        o.lay(4, 0, 6);
        o.lay(3, 1, 7);
        Samples.ayes(o);
        Checks.due("24: two new ones", o.inTheEnd(), 5);
        Checks.due("23: of the first alone", o.wouldMoot(1), 0);
        o.withdraw(1);
        o.withdraw(2);
        Samples.pass(o, o.lay(3, 0, 8));
        Checks.reads(o, "behind the one that came so", 0, 2, 3, 1);
    }

    public static void main(String[] args) {
        aStrikeTakesAllBelow();
        aStrikeOfTheFirstMovesUpAllNumbers();
        allToAStruckClauseAreMoot();
        othersStayLaidAsOneIsStruck();
        aMoveWithAStruckAimIsMoot();
        changesOfWhatIsMootAreMootByThat();
        aMoveMootsMovesOfTheSameClause();
        aMoveLeavesThoseWithTheSameAim();
        aMoveGoesBehindAllBelowTheAim();
        aReplaceMootsThoseWithAnotherText();
        oneWithTheSameTextPassesWithoutAVote();
        aReplaceByTheTextThereIsPassesToo();
        aNewOneMootsNothing();
        whatIsToAClauseChangesNoAmendment();
        aChangeIsToNoClause();
        aChangeMootsNothing();
        aChangedTextDecidesWhoPassesWithIt();
        whatCannotBeDoneIsMootByItself();
        whatIsStruckHindersNoMove();
        anAimThatCameBelowIsNoneAnyMore();
        whatCouldNotBeDoneCanBeAgain();
        aNewOneBehindGoesBehindWhatIsBelow();
        aNewOneWithinIsTheLast();
        othersBreakTheTrain();
        eachHasItsOwnTrain();
        whatMovedAwayAndBackIsOfTheTrain();
        oneThatMovedOutBreaksTheTrain();
        whatWouldBeBreaksNoTrain();
        Checks.end("ConsequenceEdgesTest");
    }
}
