import java.util.function.Supplier;

/** Promises 6 to 11 and sections 2 and 3, where they name an edge: each sentence has a test of its own. */
public final class AmendmentEdgesTest {
    /** CLAUSES 0 to 3, each within the one ahead, 4 and 5 within it, and 6 with the PARENT NONE. */
    private static AgendumOffice deepAndTwo() {
        AgendumOffice o = Samples.deep();
        o.clause(-1, 4);
        o.clause(4, 5);
        o.clause(-1, 6);
        return o;
    }

    private static void kindsAre0To4() {
        for (int kind = 0; kind <= 4; kind++) {
            AgendumOffice o = Samples.row(2);
            Checks.due("6: KIND " + kind + " is taken", o.lay(kind, 0, 1), 0);
            Checks.due("9: KIND " + kind, o.ofAmendment(0, 0), kind);
        }
        for (int kind : Refusals.outside(0, 4)) {
            Refusals.badArgument("6: KIND " + kind, () -> Samples.row(2), o -> o.lay(kind, 0, 1));
        }
    }

    private static void textIs0To999() {
        for (int kind = 2; kind <= 4; kind++) {
            int k = kind;
            AgendumOffice o = Samples.row(2);
            Checks.due("6: TEXT 0 is taken", o.lay(kind, 0, 0), 0);
            Checks.due("6: TEXT 999 is taken", o.lay(kind, 1, 999), 1);
            Checks.due("9: TEXT 0", o.ofAmendment(0, 2), 0);
            Checks.due("9: TEXT 999", o.ofAmendment(1, 2), 999);
            for (int text : Refusals.outside(0, 999)) {
                Refusals.badArgument("6: KIND " + k + ", TEXT " + text, () -> Samples.row(2), x -> x.lay(k, 0, text));
            }
        }
    }

    private static void aStrikeDoesNotLookAtOther() {
        AgendumOffice o = Samples.row(1);
        int amendment = 0;
        for (int other : new int[] {Integer.MIN_VALUE, -1, 0, 1, 40, 1000, Integer.MAX_VALUE}) {
            Checks.due("6: a STRIKE with " + other, o.lay(0, 0, other), amendment);
            Checks.due("9: NONE with 0", o.ofAmendment(amendment, 2), -1);
            amendment++;
        }
    }

    private static void theClauseMustBeInTheBill() {
        for (int kind = 0; kind <= 4; kind++) {
            int k = kind;
            AgendumOffice o = Samples.row(2);
            Checks.due("6: the first CLAUSE, KIND " + k, o.lay(k, 0, 1), 0);
            Checks.due("6: the last CLAUSE, KIND " + k, o.lay(k, 1, 0), 1);
            for (int clause : Refusals.outside(0, 1)) {
                Refusals.outOfBounds("6: KIND " + k + ", CLAUSE " + clause, () -> Samples.row(2),
                    x -> x.lay(k, clause, 0));
            }
            Refusals.outOfBounds("6: KIND " + k + ", a STRUCK CLAUSE", AmendmentEdgesTest::oneStruck,
                x -> x.lay(k, 1, 0));
        }
    }

    private static AgendumOffice oneStruck() {
        AgendumOffice o = Samples.row(3);
        Samples.pass(o, o.lay(0, 1, 0));
        return o;
    }

    private static void theAimMustBeInTheBill() {
        AgendumOffice o = Samples.row(3);
        Checks.due("6: the first CLAUSE as AIM", o.lay(1, 1, 0), 0);
        Checks.due("6: the last CLAUSE as AIM", o.lay(1, 1, 2), 1);
        Checks.due("9: the AIM", o.ofAmendment(0, 2) * 10 + o.ofAmendment(1, 2), 2);
        for (int aim : Refusals.outside(0, 2)) {
            Refusals.outOfBounds("6: AIM " + aim, () -> Samples.row(3), x -> x.lay(1, 0, aim));
        }
        Refusals.outOfBounds("6: a STRUCK AIM", AmendmentEdgesTest::oneStruck, x -> x.lay(1, 0, 1));
        Refusals.outOfBounds("6: both STRUCK", AmendmentEdgesTest::oneStruck, x -> x.lay(1, 1, 1));
    }

    private static void aTextIsNoAim() {
        for (int kind = 2; kind <= 4; kind++) {
            Checks.due("6: a TEXT like the number of a STRUCK CLAUSE", oneStruck().lay(kind, 0, 1), 1);
            Checks.due("6: a TEXT like the number of no CLAUSE", oneStruck().lay(kind, 0, 3), 1);
            Checks.due("6: a TEXT like the number of the CLAUSE itself", oneStruck().lay(kind, 2, 2), 1);
        }
    }

    /** So many AMENDMENTS, of the KIND 2, 0 WITHDRAWN and 1 PASSED. */
    private static AgendumOffice laidEver(int amendments) {
        AgendumOffice o = Samples.row(20);
        for (int a = 0; a < amendments; a++) {
            o.lay(2, a, 999);
        }
        o.withdraw(0);
        Samples.pass(o, 1);
        return o;
    }

    private static void thereAreAtMost20Ever() {
        for (int kind = 0; kind <= 4; kind++) {
            int k = kind;
            Checks.due("6: the 20th is taken, KIND " + k, laidEver(19).lay(k, 19, 0), 19);
            Refusals.badState("6: the 21st, KIND " + k, () -> laidEver(20), o -> o.lay(k, 19, 0));
        }
        Checks.due("7: the 20th is taken", laidEver(19).change(18, 0), 19);
        Refusals.badState("7: the 21st", () -> laidEver(20), o -> o.change(18, 0));
    }

    /** So many CLAUSES ever, the last of them by an AMENDMENT; CLAUSE 1 is STRUCK. */
    private static AgendumOffice written(int clauses) {
        AgendumOffice o = Samples.row(clauses - 1);
        Samples.pass(o, o.lay(4, 0, 5));
        Samples.pass(o, o.lay(0, 1, 0));
        return o;
    }

    private static void noneIsNewAsThereWere40() {
        for (int kind = 3; kind <= 4; kind++) {
            int k = kind;
            Checks.due("6: with 39 CLAUSES, KIND " + k, written(39).lay(k, 2, 0), 2);
            Refusals.badState("6: there were 40 CLAUSES, KIND " + k, () -> written(40), o -> o.lay(k, 2, 0));
        }
        for (int kind = 0; kind <= 2; kind++) {
            Checks.due("6: no new one with 40 CLAUSES, KIND " + kind, written(40).lay(kind, 2, 3), 2);
        }
    }

    private static void theFortiethIsDone() {
        for (int kind = 3; kind <= 4; kind++) {
            AgendumOffice o = written(39);
            int last = o.lay(kind, 2, 7);
            int tooMuch = o.lay(kind, 3, 7);
            Checks.due("11: the 40th", o.canBeDone(last), true);
            Checks.due("11: as there are 39", o.canBeDone(tooMuch), true);
            Samples.pass(o, last);
            Checks.due("9: the 40th CLAUSE", o.ofAmendment(last, 5), 39);
            Checks.due("11: the 41st", o.canBeDone(tooMuch), false);
            o.vote(0, tooMuch, 1);
            Checks.due("17: the 41st is MOOT", o.call(), 3);
            Checks.due("9: by itself", o.ofAmendment(tooMuch, 4), tooMuch);
            Checks.due("9: no CLAUSE came by it", o.ofAmendment(tooMuch, 5), -1);
            Checks.due("5: 40 CLAUSES ever", o.many(0), 40);
        }
    }

    private static void withinIsHighAtMost3() {
        Checks.due("6: WITHIN one that is HIGH 2", Samples.deep().lay(4, 2, 0), 0);
        Refusals.badState("6: WITHIN one that is HIGH 3", Samples::deep, o -> o.lay(4, 3, 0));
        Checks.due("6: BEHIND one that is HIGH 3", Samples.deep().lay(3, 3, 0), 0);
    }

    private static void aMovedOneIsHighAtMost3() {
        Checks.due("6: alone, behind one that is HIGH 3", deepAndTwo().lay(1, 6, 3), 0);
        Checks.due("6: with one BELOW, behind one that is HIGH 2", deepAndTwo().lay(1, 4, 2), 0);
        Refusals.badState("6: with one BELOW, behind one that is HIGH 3", AmendmentEdgesTest::deepAndTwo,
            o -> o.lay(1, 4, 3));
        Checks.due("6: with three BELOW, behind one that is HIGH 0", deepAndTwo().lay(1, 0, 4), 0);
        Refusals.badState("6: with three BELOW, behind one that is HIGH 1", AmendmentEdgesTest::deepAndTwo,
            o -> o.lay(1, 0, 5));
    }

    /** CLAUSE 0, BELOW it 1, 2 and 3, BELOW 2 also 4; and 5 to 7, each within the one ahead. */
    private static AgendumOffice broad() {
        AgendumOffice o = new AgendumOffice();
        for (int parent : new int[] {-1, 0, 0, 0, 2, -1, 5, 6}) {
            o.clause(parent, 0);
        }
        return o;
    }

    private static void theHighestBelowCounts() {
        Checks.due("6: the HIGHEST one is in the middle", broad().lay(1, 0, 6), 0);
        Refusals.badState("6: the HIGHEST one is in the middle, too HIGH", AmendmentEdgesTest::broad,
            o -> o.lay(1, 0, 7));
        Checks.due("6: the one behind it is as low", broad().lay(1, 3, 7), 0);
        Checks.due("6: one that is HIGH 2 needs less", broad().lay(1, 4, 7), 0);
    }

    private static void theAimIsNotTheClauseNorBelowIt() {
        for (int aim = 0; aim <= 3; aim++) {
            int a = aim;
            Refusals.badState("6: the AIM is 0, or BELOW it", Samples::deep, o -> o.lay(1, 0, a));
        }
        Refusals.badState("6: the AIM is the CLAUSE, which has none BELOW it", Samples::deep, o -> o.lay(1, 3, 3));
        Checks.due("6: the AIM is the PARENT", Samples.deep().lay(1, 3, 2), 0);
        Checks.due("6: the AIM is far above", Samples.deep().lay(1, 3, 0), 0);
        Checks.due("6: the AIM is the one directly ahead", Samples.row(2).lay(1, 1, 0), 0);
        Checks.due("6: the AIM is the one directly behind", Samples.row(2).lay(1, 0, 1), 0);
        Checks.due("6: the AIM is the one behind all BELOW it", deepAndTwo().lay(1, 0, 4), 0);
    }

    /** CLAUSE 0, BELOW it 1 and 2, BELOW 2 also 3: none would be too HIGH behind one of these. */
    private static AgendumOffice low() {
        AgendumOffice o = new AgendumOffice();
        for (int parent : new int[] {-1, 0, 0, 2}) {
            o.clause(parent, 0);
        }
        return o;
    }

    private static void theAimIsNotBelowThoughItIsLow() {
        Refusals.badState("6: the AIM is the first BELOW it", AmendmentEdgesTest::low, o -> o.lay(1, 0, 1));
        Refusals.badState("6: the AIM is the last one of the BILL, BELOW it", AmendmentEdgesTest::lowAndAlone,
            o -> o.lay(1, 1, 2));
        Refusals.badState("6: the AIM is the only one BELOW it", AmendmentEdgesTest::low, o -> o.lay(1, 2, 3));
        Checks.due("6: the AIM has the same PARENT", low().lay(1, 1, 2), 0);
        Checks.due("6: the AIM is BELOW another one", low().lay(1, 1, 3), 0);
    }

    private static AgendumOffice lowAndAlone() {
        AgendumOffice o = Samples.row(2);
        o.clause(1, 0);
        return o;
    }

    private static AgendumOffice twentyOnDeep() {
        AgendumOffice o = Samples.deep();
        for (int a = 0; a < 20; a++) {
            o.lay(2, 0, a);
        }
        return o;
    }

    private static void layNamesItsExceptionsInOrder() {
        Supplier<AgendumOffice> all = AmendmentEdgesTest::twentyOnDeep;
        Refusals.badArgument("6: a bad KIND, ahead of no CLAUSE", all, o -> o.lay(5, 4, 0));
        Refusals.badArgument("6: a bad KIND, ahead of 20", all, o -> o.lay(-1, 0, 0));
        for (int kind = 2; kind <= 4; kind++) {
            int k = kind;
            Refusals.badArgument("6: a bad TEXT, ahead of no CLAUSE", all, o -> o.lay(k, 4, 1000));
            Refusals.badArgument("6: a bad TEXT, ahead of 20", all, o -> o.lay(k, 0, -1));
            Refusals.outOfBounds("6: no CLAUSE, ahead of 20", all, o -> o.lay(k, 4, 0));
        }
        Refusals.badArgument("6: a bad TEXT, ahead of too HIGH", Samples::deep, o -> o.lay(4, 3, 1000));
        Refusals.badArgument("6: a bad TEXT, ahead of 40", () -> Samples.row(40), o -> o.lay(3, 0, 1000));
        Refusals.outOfBounds("6: no CLAUSE, ahead of 40", () -> Samples.row(40), o -> o.lay(3, 40, 0));
        Refusals.outOfBounds("6: no CLAUSE to STRIKE, ahead of 20", all, o -> o.lay(0, 4, 0));
        Refusals.outOfBounds("6: no CLAUSE to MOVE, ahead of 20", all, o -> o.lay(1, -1, 0));
        Refusals.outOfBounds("6: no AIM, ahead of 20", all, o -> o.lay(1, 0, 4));
        Refusals.outOfBounds("6: no CLAUSE and no AIM, ahead of that they are the same", all, o -> o.lay(1, 4, 4));
    }

    private static AgendumOffice threeWithText() {
        AgendumOffice o = Samples.row(2);
        o.lay(2, 0, 5);
        o.lay(3, 0, 5);
        o.lay(4, 0, 5);
        o.lay(0, 0, 5);
        o.lay(1, 0, 1);
        o.change(2, 6);
        return o;
    }

    private static void changesAreToTheKinds2To4() {
        for (int to = 0; to <= 2; to++) {
            Checks.due("7: TO one of the KIND " + (to + 2), threeWithText().change(to, 9), 6);
        }
        Refusals.badState("7: TO a STRIKE", AmendmentEdgesTest::threeWithText, o -> o.change(3, 9));
        Refusals.badState("7: TO a MOVE", AmendmentEdgesTest::threeWithText, o -> o.change(4, 9));
        Refusals.badState("7: TO a CHANGE", AmendmentEdgesTest::threeWithText, o -> o.change(5, 9));
    }

    private static void changesAreToLaidOnes() {
        Checks.due("7: TO one that is LAID", Samples.settled().change(0, 9), 5);
        for (int stands = 1; stands <= 4; stands++) {
            int to = stands;
            Refusals.badState("7: TO one that stands " + to, Samples::settled, o -> o.change(to, 9));
        }
    }

    private static void changeHasItsEdges() {
        AgendumOffice o = Samples.settled();
        Checks.due("7: TEXT 0 is taken", o.change(0, 0), 5);
        Checks.due("7: TEXT 999 is taken", o.change(0, 999), 6);
        Checks.due("9: TEXT 0", o.ofAmendment(5, 2), 0);
        Checks.due("9: TEXT 999", o.ofAmendment(6, 2), 999);
        for (int text : Refusals.outside(0, 999)) {
            Refusals.badArgument("7: TEXT " + text, Samples::settled, x -> x.change(0, text));
        }
        for (int amendment : Refusals.outside(0, 4)) {
            Refusals.outOfBounds("7: AMENDMENT " + amendment, Samples::settled, x -> x.change(amendment, 0));
        }
        Refusals.outOfBounds("7: AMENDMENT 20", Samples::full, x -> x.change(20, 0));
    }

    private static void changeNamesItsExceptionsInOrder() {
        Refusals.outOfBounds("7: none, ahead of a bad TEXT", Samples::settled, o -> o.change(5, 1000));
        Refusals.outOfBounds("7: none, ahead of 20", Samples::full, o -> o.change(-1, 0));
        Refusals.badArgument("7: a bad TEXT, ahead of 20", Samples::full, o -> o.change(0, 1000));
        Refusals.badArgument("7: a bad TEXT, ahead of one not LAID", Samples::settled, o -> o.change(1, -1));
        Refusals.badArgument("7: a bad TEXT, ahead of a STRIKE", AmendmentEdgesTest::threeWithText,
            o -> o.change(3, -1));
    }

    private static void withdrawRefuses() {
        for (int amendment : Refusals.outside(0, 4)) {
            Refusals.outOfBounds("8: AMENDMENT " + amendment, Samples::settled, o -> o.withdraw(amendment));
        }
        Refusals.outOfBounds("8: AMENDMENT 20", Samples::full, o -> o.withdraw(20));
        for (int stands = 1; stands <= 4; stands++) {
            int amendment = stands;
            Refusals.badState("8: one that stands " + stands, Samples::settled, o -> o.withdraw(amendment));
        }
        Checks.due("8: one that is LAID", Samples.settled().withdraw(0), 0);
    }

    private static void as19AreMootByThat() {
        AgendumOffice o = Samples.row(1);
        o.lay(2, 0, 5);
        for (int a = 1; a < 20; a++) {
            o.change(0, a);
        }
        Checks.due("8: 19 others", o.withdraw(0), 19);
        Checks.due("5: they are MOOT", o.many(6), 19);
        for (int a = 1; a < 20; a++) {
            Checks.due("9: by that", o.ofAmendment(a, 4), 0);
        }
        Checks.due("9: the one WITHDRAWN is MOOT by none", o.ofAmendment(0, 4), -1);
        Checks.due("10: none is LAID", o.next(), -1);
    }

    private static void thoseMootBeforeAreNotCounted() {
        AgendumOffice o = Samples.settled();
        Checks.due("5: one PASSED, one LOST, one MOOT", o.many(4) + o.many(5) * 10 + o.many(6) * 100, 111);
        Checks.due("8: no others", o.withdraw(0), 0);
        AgendumOffice two = threeWithText();
        two.change(0, 1);
        two.withdraw(0);
        Checks.due("8: one is MOOT by that, one was before", two.withdraw(2) * 10 + two.many(6), 12);
    }

    private static void aChangeIsWithdrawnAlone() {
        AgendumOffice o = threeWithText();
        o.change(2, 7);
        Checks.due("8: a CHANGE", o.withdraw(5), 0);
        Checks.due("9: that TO which it is stays LAID", o.ofAmendment(2, 3), 0);
        Checks.due("9: the other CHANGE stays LAID", o.ofAmendment(6, 3), 0);
        Checks.due("9: the TEXT stays", o.ofAmendment(2, 2), 5);
        Checks.due("8: those that are LAID alone are MOOT by that", o.withdraw(2), 1);
        Checks.due("9: what was WITHDRAWN stays so", o.ofAmendment(5, 3), 4);
    }

    /** A CLAUSE with that number is another thing than an AMENDMENT with it. */
    private static void aChangeIsToAnAmendment() {
        AgendumOffice o = Samples.row(3);
        o.lay(2, 1, 5);
        o.lay(2, 2, 5);
        o.lay(2, 0, 5);
        o.change(1, 9);
        Checks.due("10: no CHANGE is TO that", o.next(), 2);
        Checks.due("8: none is TO AMENDMENT 0", o.withdraw(0), 0);
        Checks.due("8: none is TO AMENDMENT 2", o.withdraw(2), 0);
        Checks.due("10: a CHANGE is TO that", o.next(), 3);
        Checks.due("8: one is TO AMENDMENT 1", o.withdraw(1), 1);
    }

    private static void ofAmendmentRefuses() {
        for (int amendment : Refusals.outside(0, 4)) {
            Refusals.outOfBounds("9: AMENDMENT " + amendment, Samples::settled, o -> o.ofAmendment(amendment, 0));
            Refusals.outOfBounds("9: AMENDMENT " + amendment + ", ahead of what", Samples::settled,
                o -> o.ofAmendment(amendment, -1));
        }
        for (int what : Refusals.outside(0, 5)) {
            Refusals.badArgument("9: what " + what, Samples::settled, o -> o.ofAmendment(4, what));
        }
        Refusals.outOfBounds("9: AMENDMENT 20", Samples::full, o -> o.ofAmendment(20, 0));
    }

    private static void toWhichTheyAre() {
        AgendumOffice o = Samples.row(40);
        for (int a = 0; a < 19; a++) {
            o.lay(2, 39 - a, 5);
        }
        o.change(18, 6);
        Checks.due("9: TO the last CLAUSE", o.ofAmendment(0, 1), 39);
        Checks.due("9: TO another one", o.ofAmendment(18, 1), 21);
        Checks.due("9: the last AMENDMENT is TO the one ahead of it", o.ofAmendment(19, 1), 18);
        Checks.due("9: its KIND", o.ofAmendment(19, 0), 5);
        o.withdraw(18);
        Checks.due("9: as it is MOOT, too", o.ofAmendment(19, 1), 18);
        Checks.due("9: by that", o.ofAmendment(19, 4), 18);
    }

    private static void byWhichOneIsMoot() {
        AgendumOffice o = Samples.settled();
        int[] due = {-1, -1, -1, 1, -1};
        for (int a = 0; a < due.length; a++) {
            Checks.due("9: by which " + a + " is MOOT", o.ofAmendment(a, 4), due[a]);
            Checks.due("9: no CLAUSE came by " + a, o.ofAmendment(a, 5), -1);
        }
    }

    private static void nextIsNoneIfNoneIsLaid() {
        Checks.due("10: of a bill without AMENDMENTS", Samples.row(3).next(), -1);
        AgendumOffice o = Samples.settled();
        Checks.due("10: the only one that is LAID", o.next(), 0);
        o.withdraw(0);
        Checks.due("10: one PASSED, one LOST, one MOOT, two WITHDRAWN", o.next(), -1);
    }

    private static void nextIsByNumberThenKindThenAmendment() {
        AgendumOffice o = Samples.row(2);
        for (int kind = 4; kind >= 0; kind--) {
            o.lay(kind, 1, 0);
            Checks.due("10: the smallest KIND", o.next(), 4 - kind);
        }
        for (int kind = 0; kind <= 4; kind++) {
            o.lay(kind, 1, 0);
            Checks.due("10: the smallest of those of the same KIND", o.next(), 4);
        }
        o.lay(4, 0, 0);
        Checks.due("10: the smallest NUMBER, with the greatest KIND", o.next(), 10);
        int[] due = {10, 4, 5, 3, 6, 2, 7, 1, 8, 0, 9};
        for (int k = 0; k < due.length; k++) {
            Checks.due("10: behind " + k + " others", o.next(), due[k]);
            o.withdraw(due[k]);
        }
    }

    private static void nextIsByNumberNotByClause() {
        AgendumOffice o = Samples.row(3);
        o.clause(0, 3);
        o.lay(2, 1, 5);
        o.lay(2, 3, 5);
        Checks.due("10: CLAUSE 3 is READ ahead of 1", o.next(), 1);
        Samples.pass(o, 1);
        o.lay(2, 2, 5);
        Samples.pass(o, o.lay(1, 0, 2));
        Checks.reads(o, "10: by a MOVE", 1, 2, 0, 3);
        o.lay(2, 0, 5);
        Checks.due("10: CLAUSE 1 is READ ahead of 0", o.next(), 0);
        o.withdraw(0);
        Checks.due("10: CLAUSE 2 is READ ahead of 0", o.next(), 2);
        o.withdraw(2);
        Checks.due("10: the last", o.next(), 4);
    }

    private static void changesOfTheNextOneGoFirst() {
        AgendumOffice o = Samples.row(2);
        o.lay(2, 1, 5);
        o.lay(4, 0, 5);
        o.change(0, 6);
        Checks.due("10: a CHANGE of another one waits", o.next(), 1);
        o.change(1, 6);
        o.change(1, 7);
        Checks.due("10: the first CHANGE of the next one", o.next(), 3);
        o.withdraw(3);
        Checks.due("10: a CHANGE that is not LAID is passed over", o.next(), 4);
        o.withdraw(4);
        Checks.due("10: no CHANGE of it is LAID", o.next(), 1);
    }

    private static void whatIsNotLaidCannotBeDone() {
        AgendumOffice o = Samples.settled();
        for (int a = 0; a < 5; a++) {
            Checks.due("11: one that stands " + a, o.canBeDone(a), a == 0);
        }
        for (int amendment : Refusals.outside(0, 4)) {
            Refusals.outOfBounds("11: AMENDMENT " + amendment, Samples::settled, x -> x.canBeDone(amendment));
        }
        Refusals.outOfBounds("11: AMENDMENT 20", Samples::full, x -> x.canBeDone(20));
        Checks.due("11: the last of 20", Samples.full().canBeDone(19), true);
    }

    private static void tooHighByThen() {
        AgendumOffice o = deepAndTwo();
        int down = o.lay(1, 4, 2);
        int within = o.lay(4, 5, 9);
        int behind = o.lay(3, 5, 9);
        int move = o.lay(1, 6, 5);
        int taller = o.lay(1, 0, 6);
        Checks.due("11: WITHIN one that is HIGH 1", o.canBeDone(within), true);
        o.withdraw(taller);
        Samples.pass(o, down);
        Checks.due("3: it is HIGH 3 now", o.ofClause(5, 3), 3);
        Checks.due("11: WITHIN one that is HIGH 3 now", o.canBeDone(within), false);
        Checks.due("11: BEHIND one that is HIGH 3 now", o.canBeDone(behind), true);
        Checks.due("11: a MOVE behind one that is HIGH 3 now", o.canBeDone(move), true);
        Samples.pass(o, behind);
        o.vote(0, within, 1);
        Checks.due("17: WITHIN one that is HIGH 3 now", o.call(), 3);
        Checks.due("3: a new one that is HIGH 3", o.ofClause(7, 3), 3);
    }

    public static void main(String[] args) {
        kindsAre0To4();
        textIs0To999();
        aStrikeDoesNotLookAtOther();
        theClauseMustBeInTheBill();
        theAimMustBeInTheBill();
        aTextIsNoAim();
        thereAreAtMost20Ever();
        noneIsNewAsThereWere40();
        theFortiethIsDone();
        withinIsHighAtMost3();
        aMovedOneIsHighAtMost3();
        theHighestBelowCounts();
        theAimIsNotTheClauseNorBelowIt();
        theAimIsNotBelowThoughItIsLow();
        layNamesItsExceptionsInOrder();
        changesAreToTheKinds2To4();
        changesAreToLaidOnes();
        changeHasItsEdges();
        changeNamesItsExceptionsInOrder();
        withdrawRefuses();
        as19AreMootByThat();
        thoseMootBeforeAreNotCounted();
        aChangeIsWithdrawnAlone();
        aChangeIsToAnAmendment();
        ofAmendmentRefuses();
        toWhichTheyAre();
        byWhichOneIsMoot();
        nextIsNoneIfNoneIsLaid();
        nextIsByNumberThenKindThenAmendment();
        nextIsByNumberNotByClause();
        changesOfTheNextOneGoFirst();
        whatIsNotLaidCannotBeDone();
        tooHighByThen();
        Checks.end("AmendmentEdgesTest");
    }
}
