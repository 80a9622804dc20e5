/** Promises 1 to 27: many runs of at most 512 calls, each answer held against the Model's. */
public final class ModelTest {
    private static final int RUNS = 1000;
    private static final int CALLS = 512;
    private static final int DENSE_RUNS = 4000;
    private static final int DENSE_CALLS = 70;

    private static long seed;

    private static int pick(int bound) {
        seed = seed * 6364136223846793005L + 1442695040888963407L;
        return (int) ((seed >>> 33) % bound);
    }

    /** Mostly 0 to bound - 1, now and then a number at or over an edge. */
    private static int near(int bound) {
        if (pick(40) == 0) {
            int[] edges = {-2, -1, bound, bound + 1, Integer.MAX_VALUE, Integer.MIN_VALUE};
            return edges[pick(edges.length)];
        }
        return bound <= 0 ? 0 : pick(bound);
    }

    private static int textOf() {
        return pick(60) == 0 ? new int[] {-1, 999, 1000}[pick(3)] : pick(3);
    }

    private static int kindOfCall(int i, int warmUp) {
        if (i < warmUp) {
            return pick(8) == 0 ? 11 : 0;
        }
        int[] calls = {0, 1, 2, 3, 4, 4, 4, 4, 4, 5, 5, 6, 7, 8, 9, 10, 11, 12, 12, 12, 12, 12, 12, 13, 14, 15,
            16, 16, 17, 18, 19, 20, 21, 22, 23, 24, 25, 26, 27};
        return calls[pick(calls.length)];
    }

    private static int laterKind(int call, Model m, int eager) {
        boolean tooEarly = call == 16 && pick(100) >= eager;
        return tooEarly ? 12 : call == 4 && m.amendments.size() == 20 ? 16 : call;
    }

    private static Object answer(Object on, int call, int a, int b, int c) {
        boolean model = on instanceof Model;
        Model m = model ? (Model) on : null;
        AgendumOffice o = model ? null : (AgendumOffice) on;
        try {
            switch (call) {
                case 0: return model ? m.clause(a, b) : o.clause(a, b);
                case 1: return model ? m.ofClause(a, b) : o.ofClause(a, b);
                case 2: return model ? m.read(a) : o.read(a);
                case 3: return model ? m.many(a) : o.many(a);
                case 4: return model ? m.lay(a, b, c) : o.lay(a, b, c);
                case 5: return model ? m.change(a, b) : o.change(a, b);
                case 6: return model ? m.withdraw(a) : o.withdraw(a);
                case 7: return model ? m.ofAmendment(a, b) : o.ofAmendment(a, b);
                case 8: return model ? m.next() : o.next();
                case 9: return model ? m.canBeDone(a) : o.canBeDone(a);
                case 10: case 11: return model ? m.party(a) : o.party(a);
                case 12: return model ? m.vote(a, b, c) : o.vote(a, b, c);
                case 13: return model ? m.quorum(a) : o.quorum(a);
                case 14: return model ? m.sit(a) : o.sit(a);
                case 15: return model ? m.speak(a, b) : o.speak(a, b);
                case 16: return model ? m.call() : o.call();
                case 17: return model ? m.ofParty(a, b) : o.ofParty(a, b);
                case 18: return model ? m.petition(a, b) : o.petition(a, b);
                case 19: return model ? m.tied(a) : o.tied(a);
                case 20: return model ? m.meanBelow() : o.meanBelow();
                case 21: return model ? m.wouldPass(a) : o.wouldPass(a);
                case 22: return model ? m.wouldMoot(a) : o.wouldMoot(a);
                case 23: return model ? m.inTheEnd() : o.inTheEnd();
                case 24: return model ? m.otherwise(a) : o.otherwise(a);
                case 25: return model ? m.calledAt(a) : o.calledAt(a);
                default: return model ? m.digest() : o.digest();
            }
        } catch (IndexOutOfBoundsException e) {
            return "IndexOutOfBoundsException";
        } catch (IllegalArgumentException e) {
            return "IllegalArgumentException";
        } catch (IllegalStateException e) {
            return "IllegalStateException";
        }
    }

    private static int[] arguments(int call, Model m) {
        int clause = near(m.nodes.size());
        int amendment = near(m.amendments.size());
        int party = near(m.parties.size());
        switch (call) {
            case 0: return new int[] {pick(4) == 0 ? -1 : clause, textOf(), 0};
            case 1: return new int[] {clause, near(8), 0};
            case 2: return new int[] {near(m.reading().size()), 0, 0};
            case 3: return new int[] {near(12), 0, 0};
            case 4:
                int kind = near(5);
                return new int[] {kind, clause, kind == 1 ? near(m.nodes.size()) : textOf()};
            case 5: return new int[] {amendment, textOf(), 0};
            case 6: return new int[] {amendment, 0, 0};
            case 7: return new int[] {amendment, near(6), 0};
            case 10: case 11: return new int[] {pick(20) == 0 ? near(100) : 1 + pick(99), 0, 0};
            case 12: return new int[] {party, amendment, pick(30) == 0 ? near(2) : pick(4) == 0 ? -1 : 1};
            case 13: return new int[] {pick(3) == 0 ? near(101) : pick(60), 0, 0};
            case 14: return new int[] {pick(3) == 0 ? near(301) : pick(60), 0, 0};
            case 15: return new int[] {party, pick(20) == 0 ? near(300) : 1 + pick(6), 0};
            case 17: return new int[] {party, near(4), 0};
            case 18: return new int[] {clause, pick(20) == 0 ? near(10000) : 1 + pick(9999), 0};
            case 19: return new int[] {near(m.petitions.size()), 0, 0};
            case 24: return new int[] {party, 0, 0};
            case 25: return new int[] {near(m.amendments.size()), 0, 0};
            default: return new int[] {amendment, 0, 0};
        }
    }

    /** The same call on both; tells what is not as due. */
    private static boolean isAsDue(String when, AgendumOffice office, Model model, int call, int... a) {
        Object want = answer(model, call, a[0], a[1], a[2]);
        Object got = answer(office, call, a[0], a[1], a[2]);
        if (!want.equals(got)) {
            System.out.println(when + ": kind " + call + " (" + a[0] + ", " + a[1] + ", " + a[2] + ") answered "
                + got + ", due is " + want);
        }
        return want.equals(got);
    }

    private static boolean runIsAsDue(int run) {
        seed = run;
        pick(2);
        AgendumOffice office = new AgendumOffice();
        Model model = new Model();
        int warmUp = 4 + pick(45);
        int eager = 5 + pick(96);
        for (int i = 0; i < CALLS; i++) {
            int call = i == CALLS - 1 ? 27 : laterKind(kindOfCall(i, warmUp), model, eager);
            int[] a = arguments(call, model);
            if (!isAsDue("run " + run + ", call " + i, office, model, call, a)) {
                return false;
            }
        }
        return true;
    }

    /** A call of a dense run: there are few CLAUSES, and most votes are AYE, so that much is DONE, and would be. */
    private static int[] denseCall(Model m) {
        int clause = pick(m.nodes.size());
        int amendments = m.amendments.size();
        int kind = new int[] {0, 1, 1, 2, 3, 3, 3, 4}[pick(8)];
        switch (pick(9)) {
            case 0: case 1: case 2: case 3:
                return new int[] {4, kind, clause, kind == 1 ? pick(m.nodes.size()) : pick(3)};
            case 4:
                return new int[] {5, pick(amendments + 1), pick(3), 0};
            case 5:
                return new int[] {12, pick(2), pick(amendments + 1), 1 - pick(7) / 6 * 2};
            case 6: case 7:
                return new int[] {16, 0, 0, 0};
            default:
                return pick(3) == 0 ? new int[] {6, pick(amendments + 1), 0, 0} : new int[] {18, clause, 1, 0};
        }
    }

    private static boolean denseRunIsAsDue(int run) {
        seed = run;
        AgendumOffice office = new AgendumOffice();
        Model model = new Model();
        boolean asDue = isAsDue("dense " + run, office, model, 10, 50, 0, 0)
            && isAsDue("dense " + run, office, model, 10, 7, 0, 0)
            && isAsDue("dense " + run, office, model, 14, 300, 0, 0);
        int clauses = 1 + pick(5);
        for (int c = 0; c < clauses; c++) {
            asDue = asDue && isAsDue("dense " + run, office, model, 0, pick(c + 1) - 1, 0, 0);
        }
        for (int i = 0; i < DENSE_CALLS && asDue; i++) {
            int[] a = denseCall(model);
            asDue = isAsDue("dense " + run + ", " + i, office, model, a[0], a[1], a[2], a[3]);
            if (asDue && a[0] == 4 && pick(5) > 0) {
                asDue = isAsDue("dense " + run + ", " + i, office, model, 12, 0, model.amendments.size() - 1, 1);
            }
            asDue = asDue && isAsDue("dense " + run + ", " + i, office, model, 27, 0, 0, 0);
        }
        return asDue;
    }

    public static void main(String[] args) {
        for (int run = 1; run <= RUNS; run++) {
            Checks.due("run " + run, runIsAsDue(run), true);
        }
        for (int run = 1; run <= DENSE_RUNS; run++) {
            Checks.due("dense run " + run, denseRunIsAsDue(run), true);
        }
        Checks.end("ModelTest");
    }
}
