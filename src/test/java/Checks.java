import java.util.concurrent.Callable;

/** What the tests share: answers that are due, and refusals that change nothing. */
final class Checks {
    private static int passed = 0;
    private static int failed = 0;

    private Checks() {
    }

    static void due(String what, long got, long want) {
        tell(got == want, what + " answered " + got + ", due is " + want);
    }

    static void due(String what, boolean got, boolean want) {
        tell(got == want, what + " answered " + got + ", due is " + want);
    }

    static void due(String what, double got, double want) {
        tell(got == want, what + " answered " + got + ", due is " + want);
    }

    static void due(String what, String got, String want) {
        tell(got.equals(want), what + " " + got + ", due is " + want);
    }

    /** The call throws just that exception, and the office is as it was. */
    static void refuses(AgendumOffice office, Class<?> exception, String what, Callable<?> call) {
        String before = picture(office);
        String got = "nothing";
        try {
            call.call();
        } catch (Exception e) {
            got = e.getClass().getSimpleName();
        }
        tell(got.equals(exception.getSimpleName()),
            what + " threw " + got + ", due is " + exception.getSimpleName());
        tell(before.equals(picture(office)), what + " changed something");
    }

    static void outOfBounds(AgendumOffice office, String what, Callable<?> call) {
        refuses(office, IndexOutOfBoundsException.class, what, call);
    }

    static void badArgument(AgendumOffice office, String what, Callable<?> call) {
        refuses(office, IllegalArgumentException.class, what, call);
    }

    static void badState(AgendumOffice office, String what, Callable<?> call) {
        refuses(office, IllegalStateException.class, what, call);
    }

    /** The whole bill as it is READ. */
    static void reads(AgendumOffice office, String what, int... clauses) {
        due(what + ": how many are in the BILL", office.many(1), clauses.length);
        for (int number = 0; number < clauses.length && number < office.many(1); number++) {
            due(what + ": read(" + number + ")", office.read(number), clauses[number]);
        }
    }

    /** Everything that one can see, but for QUORUM: that shows in wouldPass alone. */
    private static String picture(AgendumOffice office) {
        StringBuilder all = new StringBuilder().append(office.digest());
        for (int a = 0; a < office.many(2); a++) {
            all.append(' ').append(office.wouldPass(a)).append(office.canBeDone(a));
        }
        return all.append(' ').append(office.meanBelow()).toString();
    }

    private static void tell(boolean right, String what) {
        if (right) {
            passed++;
        } else {
            failed++;
            System.out.println("WRONG: " + what);
        }
    }

    /** Ends a test: its count, and exit code 1 if anything was wrong. */
    static void end(String test) {
        System.out.println(test + ": " + passed + " checks as due, " + failed + " not as due");
        if (failed != 0 || passed == 0) {
            System.exit(1);
        }
    }
}
