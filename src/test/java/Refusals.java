import java.util.function.Consumer;
import java.util.function.Supplier;

/** Refused calls: of two offices made alike one is asked what it refuses, and then both answer alike to all. */
final class Refusals {
    private Refusals() {
    }

    /** The first values that are not taken, on both sides of least to most, and the farthest ones. */
    static int[] outside(int least, int most) {
        return new int[] {Integer.MIN_VALUE, least - 1, most + 1, Integer.MAX_VALUE};
    }

    static void outOfBounds(String what, Supplier<AgendumOffice> made, Consumer<AgendumOffice> call) {
        refuses(IndexOutOfBoundsException.class, what, made, call);
    }

    static void badArgument(String what, Supplier<AgendumOffice> made, Consumer<AgendumOffice> call) {
        refuses(IllegalArgumentException.class, what, made, call);
    }

    static void badState(String what, Supplier<AgendumOffice> made, Consumer<AgendumOffice> call) {
        refuses(IllegalStateException.class, what, made, call);
    }

    private static void refuses(Class<?> exception, String what, Supplier<AgendumOffice> made,
            Consumer<AgendumOffice> call) {
        AgendumOffice asked = made.get();
        String got = "nothing";
        try {
            call.accept(asked);
        } catch (RuntimeException e) {
            got = e.getClass().getSimpleName();
        }
        Checks.due(what + " throws", got, exception.getSimpleName());
        Checks.due(what + ", and then all else is", picture(asked), picture(made.get()));
    }

    /** All that an office answers; it is changed by the asking, and not to be used any more. */
    private static String picture(AgendumOffice o) {
        StringBuilder all = new StringBuilder().append(o.digest()).append(' ').append(o.meanBelow());
        int parties = o.many(8);
        int amendments = o.many(2);
        for (int a = 0; a < amendments; a++) {
            all.append(' ').append(o.wouldPass(a)).append(o.canBeDone(a));
        }
        all.append(" quorum ").append(o.quorum(0));
        for (int i = 0; i < parties * amendments; i++) {
            all.append(' ').append(voteBefore(o, i / amendments, i % amendments));
        }
        if (parties > 0) {
            all.append(" left over ").append(o.sit(0));
        }
        return all.append(" clause ").append(nextClause(o)).toString();
    }

    private static int voteBefore(AgendumOffice o, int party, int amendment) {
        return o.ofAmendment(amendment, 3) == 0 ? o.vote(party, amendment, 0) : -2;
    }

    private static int nextClause(AgendumOffice o) {
        try {
            return o.clause(-1, 0);
        } catch (IllegalStateException e) {
            return -1;
        }
    }
}
