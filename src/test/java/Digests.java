import java.math.BigInteger;

/** The checksum of promise 27, put together from the other answers. */
final class Digests {
    private BigInteger d = BigInteger.valueOf(5754);

    private Digests() {
    }

    /** By numbers that do not wrap around; at last what is left of them in 64 bits. */
    static long of(AgendumOffice o, int petitions) {
        Digests digest = new Digests();
        digest.addCounts(o);
        digest.addClauses(o, o.many(0), o.many(1));
        digest.addAmendments(o, o.many(2));
        digest.addParties(o, o.many(8));
        for (int petition = 0; petition < petitions; petition++) {
            digest.add(o.tied(petition));
        }
        digest.add(o.next());
        digest.add(o.inTheEnd());
        return digest.d.longValue();
    }

    private void add(int v) {
        d = d.multiply(BigInteger.valueOf(31)).add(BigInteger.valueOf(v));
    }

    private void addCounts(AgendumOffice o) {
        for (int what = 0; what <= 11; what++) {
            add(o.many(what));
        }
    }

    private void addClauses(AgendumOffice o, int ever, int inTheBill) {
        for (int number = 0; number < inTheBill; number++) {
            add(o.read(number));
        }
        for (int clause = 0; clause < ever; clause++) {
            for (int what = 0; what <= 7; what++) {
                add(o.ofClause(clause, what));
            }
        }
    }

    private void addAmendments(AgendumOffice o, int amendments) {
        for (int amendment = 0; amendment < amendments; amendment++) {
            for (int what = 0; what <= 5; what++) {
                add(o.ofAmendment(amendment, what));
            }
            add(o.wouldMoot(amendment));
        }
    }

    private void addParties(AgendumOffice o, int parties) {
        for (int party = 0; party < parties; party++) {
            for (int what = 0; what <= 3; what++) {
                add(o.ofParty(party, what));
            }
            add(o.otherwise(party));
        }
    }
}
