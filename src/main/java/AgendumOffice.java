/** The paper office of a parliament. */
public final class AgendumOffice {
    private static final int NONE = -1;

    private static final int MOST_CLAUSES = 40;
    private static final int MOST_AMENDMENTS = 20;
    private static final int MOST_PARTIES = 5;
    private static final int MOST_PETITIONS = 12;
    private static final int HIGHEST = 3;
    private static final int LAST_TEXT = 999;
    private static final int MOST_SEATS = 99;
    private static final int MOST_MINUTES = 300;
    private static final int MOST_SIGNATURES = 9999;
    private static final int PERCENT = 100;
    private static final int CALL_MINUTES = 3;

    private static final int STRIKE = 0;
    private static final int MOVE = 1;
    private static final int REPLACE = 2;
    private static final int BEHIND = 3;
    private static final int WITHIN = 4;
    private static final int CHANGE = 5;

    private static final int LAID = 0;
    private static final int PASSED = 1;
    private static final int LOST = 2;
    private static final int MOOT = 3;
    private static final int WITHDRAWN = 4;

    private static final int AYE = 1;
    private static final int NO = -1;

    private static final int LAST_OF_MANY = 11;
    private static final int LAST_OF_CLAUSE = 7;
    private static final int LAST_OF_AMENDMENT = 5;
    private static final int LAST_OF_PARTY = 3;

    private final House house;
    private final Petitions petitions;
    private final Course now;
    private final Course trial;
    private final int[] ends;

    public AgendumOffice() {
        house = new House();
        petitions = new Petitions();
        now = new Course(house);
        trial = new Course(house);
        ends = new int[MOST_AMENDMENTS];
    }

    // ---- the bill

    public int clause(int parent, int text)
            throws IndexOutOfBoundsException, IllegalArgumentException, IllegalStateException {
        if (parent != NONE && !now.bill.holds(parent)) {
            throw new IndexOutOfBoundsException("no such CLAUSE in the BILL");
        }
        if (!isText(text)) {
            throw new IllegalArgumentException("a TEXT is 0 to 999");
        }
        if (now.bill.isFull() || now.bill.highUnder(parent) > HIGHEST || now.papers.count > 0) {
            throw new IllegalStateException("no CLAUSE can be written here now");
        }
        int place = parent == NONE ? now.bill.length : now.bill.endOf(parent);
        return now.bill.insert(place, parent, text);
    }

    public int ofClause(int clause, int what)
            throws IndexOutOfBoundsException, IllegalArgumentException {
        if (!now.bill.knows(clause)) {
            throw new IndexOutOfBoundsException("no such CLAUSE");
        }
        if (what < 0 || what > LAST_OF_CLAUSE) {
            throw new IllegalArgumentException("what is 0 to 7");
        }
        return factOfClause(clause, what);
    }

    public int read(int number) throws IndexOutOfBoundsException {
        if (number < 0 || number >= now.bill.length) {
            throw new IndexOutOfBoundsException("no CLAUSE has that NUMBER");
        }
        return at(now.bill.reading, number);
    }

    public int many(int what) throws IllegalArgumentException {
        if (what < 0 || what > LAST_OF_MANY) {
            throw new IllegalArgumentException("what is 0 to 11");
        }
        return howMany(what);
    }

    // ---- amendments

    public int lay(int kind, int clause, int other)
            throws IllegalArgumentException, IndexOutOfBoundsException, IllegalStateException {
        if (kind < STRIKE || kind > WITHIN || (kind >= REPLACE && !isText(other))) {
            throw new IllegalArgumentException("a KIND is 0 to 4, a TEXT 0 to 999");
        }
        if (!now.bill.holds(clause) || (kind == MOVE && !now.bill.holds(other))) {
            throw new IndexOutOfBoundsException("no such CLAUSE in the BILL");
        }
        if (now.papers.isFull() || !now.fits(kind, clause, other)) {
            throw new IllegalStateException("too many, or it cannot be DONE");
        }
        return now.papers.add(kind, clause, kind == STRIKE ? NONE : other);
    }

    public int change(int amendment, int text)
            throws IndexOutOfBoundsException, IllegalArgumentException, IllegalStateException {
        if (!now.papers.knows(amendment)) {
            throw new IndexOutOfBoundsException("no such AMENDMENT");
        }
        if (!isText(text)) {
            throw new IllegalArgumentException("a TEXT is 0 to 999");
        }
        if (now.papers.isFull() || !now.papers.isLaid(amendment) || !now.papers.hasText(amendment)) {
            throw new IllegalStateException("too many, or that AMENDMENT takes no CHANGE");
        }
        return now.papers.add(CHANGE, amendment, text);
    }

    public int withdraw(int amendment) throws IndexOutOfBoundsException, IllegalStateException {
        if (!now.papers.knows(amendment)) {
            throw new IndexOutOfBoundsException("no such AMENDMENT");
        }
        if (!now.papers.isLaid(amendment)) {
            throw new IllegalStateException("it is not LAID");
        }
        int before = now.papers.countOf(MOOT);
        now.papers.settle(amendment, WITHDRAWN, NONE);
        return now.papers.countOf(MOOT) - before;
    }

    public int ofAmendment(int amendment, int what)
            throws IndexOutOfBoundsException, IllegalArgumentException {
        if (!now.papers.knows(amendment)) {
            throw new IndexOutOfBoundsException("no such AMENDMENT");
        }
        if (what < 0 || what > LAST_OF_AMENDMENT) {
            throw new IllegalArgumentException("what is 0 to 5");
        }
        return now.papers.fact(amendment, what);
    }

    public int next() {
        return now.following();
    }

    public boolean canBeDone(int amendment) throws IndexOutOfBoundsException {
        if (!now.papers.knows(amendment)) {
            throw new IndexOutOfBoundsException("no such AMENDMENT");
        }
        return now.isDoable(amendment);
    }

    // ---- parties and sittings

    public int party(int seats) throws IllegalArgumentException, IllegalStateException {
        if (seats < 1 || seats > MOST_SEATS) {
            throw new IllegalArgumentException("SEATS are 1 to 99");
        }
        if (house.parties >= MOST_PARTIES) {
            throw new IllegalStateException("there are 5 PARTIES");
        }
        return house.add(seats);
    }

    public int vote(int party, int amendment, int vote)
            throws IndexOutOfBoundsException, IllegalArgumentException, IllegalStateException {
        if (!house.knows(party) || !now.papers.knows(amendment)) {
            throw new IndexOutOfBoundsException("no such PARTY, or AMENDMENT");
        }
        if (vote < NO || vote > AYE) {
            throw new IllegalArgumentException("a vote is -1 to 1");
        }
        if (!now.papers.isLaid(amendment)) {
            throw new IllegalStateException("it is not LAID");
        }
        return house.castVote(party, amendment, vote);
    }

    public int quorum(int quorum) throws IllegalArgumentException {
        if (quorum < 0 || quorum > PERCENT) {
            throw new IllegalArgumentException("QUORUM is 0 to 100");
        }
        int before = house.quorum;
        house.quorum = quorum;
        return before;
    }

    public int sit(int minutes) throws IllegalArgumentException, IllegalStateException {
        if (minutes < 0 || minutes > MOST_MINUTES) {
            throw new IllegalArgumentException("MINUTES are 0 to 300");
        }
        if (house.parties == 0) {
            throw new IllegalStateException("there is no PARTY");
        }
        int over = house.isSitting() ? house.left : 0;
        house.beginSitting(minutes);
        return over;
    }

    public int speak(int party, int minutes)
            throws IndexOutOfBoundsException, IllegalArgumentException, IllegalStateException {
        if (!house.knows(party)) {
            throw new IndexOutOfBoundsException("no such PARTY");
        }
        if (minutes < 1) {
            throw new IllegalArgumentException("one SPEAKS for at least 1");
        }
        if (!house.isSitting() || now.following() == NONE || !house.hasTimeFor(party, minutes)) {
            throw new IllegalStateException("nothing to SPEAK to, or no time left");
        }
        return house.spend(party, minutes);
    }

    public int call() throws IllegalStateException {
        int amendment = now.following();
        if (amendment == NONE || !house.isSitting() || house.left < CALL_MINUTES) {
            throw new IllegalStateException("nothing to call, or no time left");
        }
        house.left -= CALL_MINUTES;
        now.decide(amendment, NONE);
        petitions.leaveStruck(now.bill);
        return at(now.papers.state, amendment);
    }

    public int ofParty(int party, int what)
            throws IndexOutOfBoundsException, IllegalArgumentException {
        if (!house.knows(party)) {
            throw new IndexOutOfBoundsException("no such PARTY");
        }
        if (what < 0 || what > LAST_OF_PARTY) {
            throw new IllegalArgumentException("what is 0 to 3");
        }
        return factOfParty(party, what);
    }

    // ---- petitions

    public int petition(int clause, int signatures)
            throws IndexOutOfBoundsException, IllegalArgumentException, IllegalStateException {
        if (!now.bill.holds(clause)) {
            throw new IndexOutOfBoundsException("no such CLAUSE in the BILL");
        }
        if (signatures < 1 || signatures > MOST_SIGNATURES) {
            throw new IllegalArgumentException("SIGNATURES are 1 to 9999");
        }
        if (petitions.count >= MOST_PETITIONS) {
            throw new IllegalStateException("there are 12 PETITIONS");
        }
        return petitions.add(clause, signatures);
    }

    public int tied(int petition) throws IndexOutOfBoundsException {
        if (petition < 0 || petition >= petitions.count) {
            throw new IndexOutOfBoundsException("no such PETITION");
        }
        return at(petitions.clauses, petition);
    }

    public double meanBelow() {
        int clauses = now.bill.length;
        return clauses > 0 ? (double) now.bill.sumBelow() / clauses : 0.0;
    }

    // ---- what would be (nothing is changed)

    public boolean wouldPass(int amendment) throws IndexOutOfBoundsException {
        if (!now.papers.knows(amendment)) {
            throw new IndexOutOfBoundsException("no such AMENDMENT");
        }
        return house.carries(amendment, NONE);
    }

    public int wouldMoot(int amendment) throws IndexOutOfBoundsException {
        if (!now.papers.knows(amendment)) {
            throw new IndexOutOfBoundsException("no such AMENDMENT");
        }
        return mootIfPassed(amendment);
    }

    public int inTheEnd() {
        return clausesInTheEnd();
    }

    public int otherwise(int party) throws IndexOutOfBoundsException {
        if (!house.knows(party)) {
            throw new IndexOutOfBoundsException("no such PARTY");
        }
        return changedWithout(party);
    }

    public int calledAt(int k) throws IndexOutOfBoundsException {
        int amendment = putBehind(k);
        if (amendment == NONE) {
            throw new IndexOutOfBoundsException("none would be PUT then");
        }
        return amendment;
    }

    public long digest() {
        long d = 5754L;
        for (int what = 0; what <= LAST_OF_MANY; what++) {
            d = d * 31L + howMany(what);
        }
        for (int number = 0; number < now.bill.length; number++) {
            d = d * 31L + at(now.bill.reading, number);
        }
        for (int clause = 0; clause < now.bill.written; clause++) {
            for (int what = 0; what <= LAST_OF_CLAUSE; what++) {
                d = d * 31L + factOfClause(clause, what);
            }
        }
        for (int amendment = 0; amendment < now.papers.count; amendment++) {
            for (int what = 0; what <= LAST_OF_AMENDMENT; what++) {
                d = d * 31L + now.papers.fact(amendment, what);
            }
            d = d * 31L + mootIfPassed(amendment);
        }
        for (int party = 0; party < house.parties; party++) {
            for (int what = 0; what <= LAST_OF_PARTY; what++) {
                d = d * 31L + factOfParty(party, what);
            }
            d = d * 31L + changedWithout(party);
        }
        for (int petition = 0; petition < petitions.count; petition++) {
            d = d * 31L + at(petitions.clauses, petition);
        }
        d = d * 31L + now.following();
        return d * 31L + clausesInTheEnd();
    }

    // ---- what the calls and the digest share

    private int howMany(int what) {
        switch (what) {
            case 0:
                return now.bill.written;
            case 1:
                return now.bill.length;
            case 2:
                return now.papers.count;
            case 8:
                return house.parties;
            case 9:
                return house.allSeats();
            case 10:
                return house.left;
            case 11:
                return petitions.tiedTo(NONE);
            default:
                return now.papers.countOf(what - 3);
        }
    }

    private int factOfClause(int clause, int what) {
        switch (what) {
            case 0:
                return at(now.bill.text, clause);
            case 1:
                return at(now.bill.parent, clause);
            case 2:
                return at(now.bill.number, clause);
            case 3:
                return at(now.bill.high, clause);
            case 4:
                return now.bill.holds(clause) ? 0 : 1;
            case 5:
                return now.bill.below(clause);
            case 6:
                return at(now.bill.origin, clause);
            default:
                return petitions.signaturesFor(clause);
        }
    }

    private int factOfParty(int party, int what) {
        switch (what) {
            case 0:
                return at(house.seats, party);
            case 1:
                return house.isSitting() ? at(house.share, party) : NONE;
            case 2:
                return at(house.spoken, party);
            default:
                return passedWithAyeOf(party);
        }
    }

    private int passedWithAyeOf(int party) {
        int passed = 0;
        for (int a = 0; a < now.papers.count; a++) {
            if (at(now.papers.state, a) == PASSED && house.voteOf(party, a) == AYE) {
                passed++;
            }
        }
        return passed;
    }

    private int mootIfPassed(int amendment) {
        if (!now.isDoable(amendment)) {
            return 0;
        }
        trial.become(now);
        trial.perform(amendment);
        trial.settlePassed(amendment);
        return trial.papers.countOf(MOOT) - now.papers.countOf(MOOT);
    }

    private int clausesInTheEnd() {
        trial.become(now);
        trial.decideAll(NONE);
        return trial.bill.length;
    }

    private int changedWithout(int party) {
        trial.become(now);
        trial.decideAll(NONE);
        copy(trial.papers.state, ends);
        trial.become(now);
        trial.decideAll(party);
        int changed = 0;
        for (int a = 0; a < now.papers.count; a++) {
            if (at(trial.papers.state, a) != at(ends, a)) {
                changed++;
            }
        }
        return changed;
    }

    private int putBehind(int others) {
        if (others < 0 || others >= MOST_AMENDMENTS) {
            return NONE;
        }
        trial.become(now);
        for (int i = 0; i < others; i++) {
            trial.decide(trial.following(), NONE);
        }
        return trial.following();
    }

    private static boolean isText(int text) {
        return text >= 0 && text <= LAST_TEXT;
    }

    // Every row is read and written through these three, so that no index is used untested.

    private static int at(int[] row, int index) {
        return index >= 0 && index < row.length ? row[index] : NONE;
    }

    private static void put(int[] row, int index, int value) {
        if (index >= 0 && index < row.length) {
            row[index] = value;
        }
    }

    private static void copy(int[] from, int[] to) {
        for (int i = 0; i < from.length && i < to.length; i++) {
            to[i] = from[i];
        }
    }

    /**
     * The CLAUSES. The tree is kept as the row of those in the BILL as they are READ, each with how
     * HIGH it is: so those BELOW a CLAUSE stand directly behind it, as far as they are HIGHER.
     */
    private static final class Bill {
        private final int[] text = new int[MOST_CLAUSES];
        private final int[] parent = new int[MOST_CLAUSES];
        private final int[] high = new int[MOST_CLAUSES];
        private final int[] origin = new int[MOST_CLAUSES];
        private final int[] cameBehind = new int[MOST_CLAUSES];
        private final int[] number = new int[MOST_CLAUSES];
        private final int[] reading = new int[MOST_CLAUSES];
        private final int[] spare = new int[MOST_CLAUSES];
        private int written;
        private int length;

        void become(Bill other) {
            copy(other.text, text);
            copy(other.parent, parent);
            copy(other.high, high);
            copy(other.origin, origin);
            copy(other.cameBehind, cameBehind);
            copy(other.number, number);
            copy(other.reading, reading);
            written = other.written;
            length = other.length;
        }

        boolean isFull() {
            return written >= MOST_CLAUSES;
        }

        boolean knows(int clause) {
            return clause >= 0 && clause < written;
        }

        boolean holds(int clause) {
            return clause >= 0 && clause < written && at(number, clause) != NONE;
        }

        int highUnder(int above) {
            return above == NONE ? 0 : at(high, above) + 1;
        }

        /** The NUMBER behind the CLAUSE and all BELOW it. */
        int endOf(int clause) {
            for (int i = at(number, clause) + 1; i < length; i++) {
                if (at(high, at(reading, i)) <= at(high, clause)) {
                    return i;
                }
            }
            return length;
        }

        /** The NUMBER behind the CLAUSE and those that came BEHIND it and still follow it. */
        int endOfTrain(int clause) {
            for (int i = endOf(clause); i < length; i++) {
                int other = at(reading, i);
                boolean inTrain = at(cameBehind, other) == clause && at(parent, other) == at(parent, clause);
                if (at(high, other) <= at(high, clause) && !inTrain) {
                    return i;
                }
            }
            return length;
        }

        int below(int clause) {
            return holds(clause) ? endOf(clause) - at(number, clause) - 1 : 0;
        }

        // Each CLAUSE is BELOW as many others as it is HIGH.
        int sumBelow() {
            int sum = 0;
            for (int i = 0; i < length; i++) {
                sum += at(high, at(reading, i));
            }
            return sum;
        }

        int highestOf(int from, int end) {
            int highest = 0;
            for (int i = from; i < end; i++) {
                highest = Math.max(highest, at(high, at(reading, i)));
            }
            return highest;
        }

        /** A new CLAUSE with that PARENT and that NUMBER. */
        int insert(int place, int above, int words) {
            if (isFull()) {
                return NONE;
            }
            int made = written;
            written++;
            put(text, made, words);
            put(parent, made, above);
            put(high, made, highUnder(above));
            put(origin, made, NONE);
            put(cameBehind, made, NONE);
            for (int i = length; i > place; i--) {
                put(reading, i, at(reading, i - 1));
            }
            put(reading, place, made);
            length++;
            renumber();
            return made;
        }

        void strike(int clause) {
            int from = at(number, clause);
            int end = endOf(clause);
            for (int i = from; i < end; i++) {
                put(number, at(reading, i), NONE);
            }
            for (int i = end; i < length; i++) {
                put(reading, from + i - end, at(reading, i));
            }
            length -= end - from;
            renumber();
        }

        void moveBehind(int clause, int aim) {
            int from = at(number, clause);
            int end = endOf(clause);
            int goal = endOf(aim);
            int rise = at(high, aim) - at(high, clause);
            for (int i = from; i < end; i++) {
                int moved = at(reading, i);
                put(high, moved, at(high, moved) + rise);
            }
            put(parent, clause, at(parent, aim));
            shift(from, end, goal);
            renumber();
        }

        private void shift(int from, int end, int goal) {
            int filled = 0;
            for (int i = 0; i <= length; i++) {
                if (i == goal) {
                    for (int j = from; j < end; j++) {
                        put(spare, filled, at(reading, j));
                        filled++;
                    }
                }
                if (i < length && (i < from || i >= end)) {
                    put(spare, filled, at(reading, i));
                    filled++;
                }
            }
            copy(spare, reading);
        }

        private void renumber() {
            for (int i = 0; i < length; i++) {
                put(number, at(reading, i), i);
            }
        }
    }

    /** The AMENDMENTS, and how they stand. */
    private static final class Papers {
        private final int[] kind = new int[MOST_AMENDMENTS];
        private final int[] target = new int[MOST_AMENDMENTS];
        private final int[] other = new int[MOST_AMENDMENTS];
        private final int[] state = new int[MOST_AMENDMENTS];
        private final int[] mootBy = new int[MOST_AMENDMENTS];
        private final int[] made = new int[MOST_AMENDMENTS];
        private int count;

        void become(Papers from) {
            copy(from.kind, kind);
            copy(from.target, target);
            copy(from.other, other);
            copy(from.state, state);
            copy(from.mootBy, mootBy);
            copy(from.made, made);
            count = from.count;
        }

        boolean isFull() {
            return count >= MOST_AMENDMENTS;
        }

        boolean knows(int amendment) {
            return amendment >= 0 && amendment < count;
        }

        boolean isLaid(int amendment) {
            return amendment >= 0 && amendment < count && at(state, amendment) == LAID;
        }

        boolean hasText(int amendment) {
            int itsKind = at(kind, amendment);
            return itsKind >= REPLACE && itsKind <= WITHIN;
        }

        int add(int itsKind, int to, int textOrAim) {
            int amendment = count;
            count++;
            put(kind, amendment, itsKind);
            put(target, amendment, to);
            put(other, amendment, textOrAim);
            put(state, amendment, LAID);
            put(mootBy, amendment, NONE);
            put(made, amendment, NONE);
            return amendment;
        }

        int fact(int amendment, int what) {
            switch (what) {
                case 0:
                    return at(kind, amendment);
                case 1:
                    return at(target, amendment);
                case 2:
                    return at(other, amendment);
                case 3:
                    return at(state, amendment);
                case 4:
                    return at(mootBy, amendment);
                default:
                    return at(made, amendment);
            }
        }

        int countOf(int itsState) {
            int found = 0;
            for (int a = 0; a < count; a++) {
                if (at(state, a) == itsState) {
                    found++;
                }
            }
            return found;
        }

        /** The first LAID CHANGE of it; if there is none, NONE. */
        int firstChangeOf(int amendment) {
            for (int a = 0; a < count; a++) {
                if (at(state, a) == LAID && at(kind, a) == CHANGE && at(target, a) == amendment) {
                    return a;
                }
            }
            return NONE;
        }

        /** Ends its being LAID; what was to CHANGE it is MOOT by it, however it ended. */
        void settle(int amendment, int itsState, int by) {
            put(state, amendment, itsState);
            put(mootBy, amendment, by);
            for (int a = 0; a < count; a++) {
                if (at(state, a) == LAID && at(kind, a) == CHANGE && at(target, a) == amendment) {
                    put(state, a, MOOT);
                    put(mootBy, a, amendment);
                }
            }
        }
    }

    /** The PARTIES, their votes, and the SITTING. */
    private static final class House {
        private final int[] seats = new int[MOST_PARTIES];
        private final int[] share = new int[MOST_PARTIES];
        private final int[] spoken = new int[MOST_PARTIES];
        private final int[] votes = new int[MOST_PARTIES * MOST_AMENDMENTS];
        private int parties;
        private int quorum;
        private int left = NONE;

        boolean knows(int party) {
            return party >= 0 && party < parties;
        }

        int add(int itsSeats) {
            int party = parties;
            parties++;
            put(seats, party, itsSeats);
            return party;
        }

        int allSeats() {
            int all = 0;
            for (int p = 0; p < parties; p++) {
                all += at(seats, p);
            }
            return all;
        }

        int voteOf(int party, int amendment) {
            return at(votes, party * MOST_AMENDMENTS + amendment);
        }

        int castVote(int party, int amendment, int vote) {
            int place = party * MOST_AMENDMENTS + amendment;
            int before = at(votes, place);
            put(votes, place, vote);
            return before;
        }

        /** Whether it would PASS, if the PARTY absent (or NONE) voted not at all. */
        boolean carries(int amendment, int absent) {
            int ayes = 0;
            int noes = 0;
            int all = 0;
            for (int p = 0; p < parties; p++) {
                int itsSeats = at(seats, p);
                int vote = p == absent ? 0 : voteOf(p, amendment);
                ayes += vote == AYE ? itsSeats : 0;
                noes += vote == NO ? itsSeats : 0;
                all += itsSeats;
            }
            return ayes > noes && (ayes + noes) * PERCENT >= quorum * all;
        }

        boolean isSitting() {
            return left != NONE;
        }

        void beginSitting(int minutes) {
            int all = allSeats();
            left = minutes;
            for (int p = 0; p < parties; p++) {
                put(share, p, all > 0 ? minutes * at(seats, p) / all : 0);
            }
        }

        boolean hasTimeFor(int party, int minutes) {
            return minutes <= left && minutes <= at(share, party);
        }

        int spend(int party, int minutes) {
            left -= minutes;
            put(spoken, party, at(spoken, party) + minutes);
            put(share, party, at(share, party) - minutes);
            return at(share, party);
        }
    }

    /** The PETITIONS, and to what they are tied. */
    private static final class Petitions {
        private final int[] clauses = new int[MOST_PETITIONS];
        private final int[] signatures = new int[MOST_PETITIONS];
        private int count;

        int add(int clause, int signed) {
            int petition = count;
            count++;
            put(clauses, petition, clause);
            put(signatures, petition, signed);
            return petition;
        }

        int tiedTo(int clause) {
            int found = 0;
            for (int p = 0; p < count; p++) {
                if (at(clauses, p) == clause) {
                    found++;
                }
            }
            return found;
        }

        int signaturesFor(int clause) {
            int sum = 0;
            for (int p = 0; p < count; p++) {
                if (at(clauses, p) == clause) {
                    sum += at(signatures, p);
                }
            }
            return sum;
        }

        void leaveStruck(Bill bill) {
            for (int p = 0; p < count; p++) {
                int clause = at(clauses, p);
                for (int i = 0; i <= HIGHEST && clause != NONE && !bill.holds(clause); i++) {
                    clause = at(bill.parent, clause);
                }
                put(clauses, p, clause);
            }
        }
    }

    /** The BILL and its AMENDMENTS as these are called: as it is, or, in a trial, as it would be. */
    private static final class Course {
        private final Bill bill = new Bill();
        private final Papers papers = new Papers();
        private final House house;

        Course(House itsHouse) {
            house = itsHouse;
        }

        void become(Course other) {
            bill.become(other.bill);
            papers.become(other.papers);
        }

        /** Whether such an AMENDMENT TO a CLAUSE in the BILL can be DONE. */
        boolean fits(int kind, int clause, int other) {
            if (kind == MOVE) {
                int from = at(bill.number, clause);
                int end = bill.endOf(clause);
                int aim = at(bill.number, other);
                int rise = at(bill.high, other) - at(bill.high, clause);
                return (aim < from || aim >= end) && bill.highestOf(from, end) + rise <= HIGHEST;
            }
            if (kind == BEHIND) {
                return !bill.isFull();
            }
            if (kind == WITHIN) {
                return !bill.isFull() && bill.highUnder(clause) <= HIGHEST;
            }
            return true;
        }

        boolean isDoable(int amendment) {
            return papers.isLaid(amendment)
                && fits(at(papers.kind, amendment), at(papers.target, amendment), at(papers.other, amendment));
        }

        int following() {
            int first = NONE;
            for (int a = 0; a < papers.count; a++) {
                boolean isCandidate = at(papers.state, a) == LAID && at(papers.kind, a) != CHANGE;
                if (isCandidate && (first == NONE || isAhead(a, first))) {
                    first = a;
                }
            }
            int change = first == NONE ? NONE : papers.firstChangeOf(first);
            return change == NONE ? first : change;
        }

        // Of equals the one laid before stays ahead: so this asks for less, never for as much.
        private boolean isAhead(int amendment, int other) {
            int place = at(bill.number, at(papers.target, amendment));
            int otherPlace = at(bill.number, at(papers.target, other));
            boolean hasSmallerKind = at(papers.kind, amendment) < at(papers.kind, other);
            return place < otherPlace || (place == otherPlace && hasSmallerKind);
        }

        /** PUTS the AMENDMENT, if it is one that is LAID; the PARTY absent (or NONE) does not vote. */
        void decide(int amendment, int absent) {
            if (!papers.isLaid(amendment)) {
                return;
            }
            if (!isDoable(amendment)) {
                papers.settle(amendment, MOOT, amendment);
            } else if (!house.carries(amendment, absent)) {
                papers.settle(amendment, LOST, NONE);
            } else {
                perform(amendment);
                settlePassed(amendment);
            }
        }

        // Each turn ends the being LAID of one at least.
        void decideAll(int absent) {
            for (int i = 0; i < MOST_AMENDMENTS; i++) {
                decide(following(), absent);
            }
        }

        void perform(int amendment) {
            int target = at(papers.target, amendment);
            int other = at(papers.other, amendment);
            int made = NONE;
            switch (at(papers.kind, amendment)) {
                case STRIKE:
                    bill.strike(target);
                    break;
                case MOVE:
                    bill.moveBehind(target, other);
                    break;
                case REPLACE:
                    put(bill.text, target, other);
                    break;
                case BEHIND:
                    made = bill.insert(bill.endOfTrain(target), at(bill.parent, target), other);
                    put(bill.cameBehind, made, target);
                    break;
                case WITHIN:
                    made = bill.insert(bill.endOf(target), target, other);
                    break;
                default:
                    put(papers.other, target, other);
                    break;
            }
            if (made != NONE) {
                put(bill.origin, made, amendment);
                put(papers.made, amendment, made);
            }
        }

        void settlePassed(int amendment) {
            papers.settle(amendment, PASSED, NONE);
            for (int a = 0; a < papers.count; a++) {
                int fate = fateBy(amendment, a);
                if (fate != LAID) {
                    papers.settle(a, fate, fate == MOOT ? amendment : NONE);
                }
            }
        }

        /** What the PASSED one makes of the other; LAID: nothing. */
        private int fateBy(int passed, int other) {
            if (at(papers.state, other) != LAID) {
                return LAID;
            }
            int kind = at(papers.kind, passed);
            if (kind == STRIKE) {
                return isOfStruck(other) ? MOOT : LAID;
            }
            boolean sameKindAndClause = at(papers.kind, other) == kind
                && at(papers.target, other) == at(papers.target, passed);
            if (kind == MOVE && sameKindAndClause) {
                return MOOT;
            }
            if (kind == REPLACE && sameKindAndClause) {
                return at(papers.other, other) == at(papers.other, passed) ? PASSED : MOOT;
            }
            return LAID;
        }

        private boolean isOfStruck(int amendment) {
            int kind = at(papers.kind, amendment);
            boolean isToStruck = kind != CHANGE && at(bill.number, at(papers.target, amendment)) == NONE;
            return isToStruck || (kind == MOVE && at(bill.number, at(papers.other, amendment)) == NONE);
        }
    }
}
