import java.util.ArrayList;
import java.util.List;

/**
 * The document once more, in another form, to hold the program against: the bill as objects with
 * lists of children, what would be by playing a copy to its end. It is slow and makes objects freely.
 */
final class Model {
    static final int NONE = -1;

    static final class Node {
        int id;
        int text;
        Node parent;
        List<Node> kids = new ArrayList<>();
        boolean struck;
        int highAsStruck;
        int cameBy = NONE;

        int high() {
            return struck ? highAsStruck : parent == null ? 0 : parent.high() + 1;
        }

        int tall() {
            int tall = 0;
            for (Node kid : kids) {
                tall = Math.max(tall, 1 + kid.tall());
            }
            return tall;
        }

        int below() {
            int below = 0;
            for (Node kid : kids) {
                below += 1 + kid.below();
            }
            return below;
        }

        boolean isOrIsBelow(Node other) {
            return this == other || (parent != null && parent.isOrIsBelow(other));
        }
    }

    static final class Amendment {
        int kind;
        int to;
        int other;
        int state;
        int by = NONE;
        int made = NONE;
        int[] votes = new int[5];
    }

    static final class Party {
        int seats;
        int share;
        int spoke;
    }

    static final class Petition {
        int signatures;
        Node clause;
    }

    List<Node> nodes = new ArrayList<>();
    List<Node> tops = new ArrayList<>();
    List<Amendment> amendments = new ArrayList<>();
    List<Party> parties = new ArrayList<>();
    List<Petition> petitions = new ArrayList<>();
    int quorum = 0;
    boolean sitting = false;
    int left = 0;

    Model copy() {
        Model m = new Model();
        for (Node n : nodes) {
            Node c = new Node();
            c.id = n.id;
            c.text = n.text;
            c.struck = n.struck;
            c.highAsStruck = n.highAsStruck;
            c.cameBy = n.cameBy;
            m.nodes.add(c);
        }
        for (Node n : nodes) {
            Node c = m.nodes.get(n.id);
            c.parent = n.parent == null ? null : m.nodes.get(n.parent.id);
            for (Node kid : n.kids) {
                c.kids.add(m.nodes.get(kid.id));
            }
        }
        for (Node top : tops) {
            m.tops.add(m.nodes.get(top.id));
        }
        for (Amendment a : amendments) {
            Amendment c = new Amendment();
            c.kind = a.kind;
            c.to = a.to;
            c.other = a.other;
            c.state = a.state;
            c.by = a.by;
            c.made = a.made;
            c.votes = a.votes.clone();
            m.amendments.add(c);
        }
        m.parties = parties;
        m.quorum = quorum;
        return m;
    }

    // ---- helpers

    List<Node> reading() {
        List<Node> all = new ArrayList<>();
        collect(tops, all);
        return all;
    }

    private static void collect(List<Node> from, List<Node> all) {
        for (Node n : from) {
            all.add(n);
            collect(n.kids, all);
        }
    }

    private List<Node> siblings(Node parent) {
        return parent == null ? tops : parent.kids;
    }

    private Node inBill(int clause) {
        if (clause < 0 || clause >= nodes.size() || nodes.get(clause).struck) {
            throw new IndexOutOfBoundsException();
        }
        return nodes.get(clause);
    }

    private Amendment amendment(int a) {
        if (a < 0 || a >= amendments.size()) {
            throw new IndexOutOfBoundsException();
        }
        return amendments.get(a);
    }

    private Party member(int p) {
        if (p < 0 || p >= parties.size()) {
            throw new IndexOutOfBoundsException();
        }
        return parties.get(p);
    }

    private static void text(int text) {
        if (text < 0 || text > 999) {
            throw new IllegalArgumentException();
        }
    }

    private static void range(int v, int from, int to) {
        if (v < from || v > to) {
            throw new IllegalArgumentException();
        }
    }

    private static void state(boolean bad) {
        if (bad) {
            throw new IllegalStateException();
        }
    }

    private Node write(Node parent, int place, int text, int cameBy) {
        Node n = new Node();
        n.id = nodes.size();
        n.text = text;
        n.parent = parent;
        n.cameBy = cameBy;
        nodes.add(n);
        siblings(parent).add(place, n);
        return n;
    }

    private boolean doable(int kind, int clause, int other) {
        Node n = kind == 5 ? null : nodes.get(clause);
        switch (kind) {
            case 1:
                Node aim = nodes.get(other);
                return !aim.isOrIsBelow(n) && aim.high() + n.tall() <= 3;
            case 3:
                return nodes.size() < 40;
            case 4:
                return nodes.size() < 40 && n.high() + 1 <= 3;
            default:
                return true;
        }
    }

    private void make(int id) {
        Amendment a = amendments.get(id);
        Node n = a.kind == 5 ? null : nodes.get(a.to);
        if (a.kind == 0) {
            List<Node> gone = new ArrayList<>();
            gone.add(n);
            collect(n.kids, gone);
            siblings(n.parent).remove(n);
            for (Node g : gone) {
                g.highAsStruck = g.high();
            }
            for (Node g : gone) {
                g.struck = true;
                g.kids.clear();
            }
        } else if (a.kind == 1) {
            Node aim = nodes.get(a.other);
            siblings(n.parent).remove(n);
            n.parent = aim.parent;
            List<Node> row = siblings(aim.parent);
            row.add(row.indexOf(aim) + 1, n);
        } else if (a.kind == 2) {
            n.text = a.other;
        } else if (a.kind == 3) {
            List<Node> row = siblings(n.parent);
            int place = row.indexOf(n) + 1;
            while (place < row.size() && cameBehind(row.get(place), a.to)) {
                place++;
            }
            a.made = write(n.parent, place, a.other, id).id;
        } else if (a.kind == 4) {
            a.made = write(n, n.kids.size(), a.other, id).id;
        } else {
            amendments.get(a.to).other = a.other;
        }
    }

    private boolean cameBehind(Node n, int clause) {
        return n.cameBy != NONE && amendments.get(n.cameBy).kind == 3 && amendments.get(n.cameBy).to == clause;
    }

    private void finish(int id, int state, int by) {
        Amendment a = amendments.get(id);
        a.state = state;
        a.by = by;
        for (Amendment b : amendments) {
            if (b.state == 0 && b.kind == 5 && b.to == id) {
                b.state = 3;
                b.by = id;
            }
        }
    }

    private void pass(int id) {
        make(id);
        finish(id, 1, NONE);
        Amendment a = amendments.get(id);
        for (int i = 0; i < amendments.size(); i++) {
            Amendment b = amendments.get(i);
            if (b.state != 0 || b.kind == 5) {
                continue;
            }
            if (a.kind == 0 && nodes.get(b.to).struck) {
                finish(i, 3, id);
            } else if (a.kind == 0 && b.kind == 1 && nodes.get(b.other).struck) {
                finish(i, 3, id);
            } else if (a.kind == 1 && b.kind == 1 && a.to == b.to) {
                finish(i, 3, id);
            } else if (a.kind == 2 && b.kind == 2 && a.to == b.to && a.other != b.other) {
                finish(i, 3, id);
            } else if (a.kind == 2 && b.kind == 2 && a.to == b.to) {
                finish(i, 1, NONE);
            }
        }
    }

    private void put(int id) {
        if (!canBeDone(id)) {
            finish(id, 3, id);
        } else if (wouldPass(id)) {
            pass(id);
        } else {
            finish(id, 2, NONE);
        }
    }

    private List<Integer> toTheEnd() {
        List<Integer> puts = new ArrayList<>();
        while (next() != NONE) {
            puts.add(next());
            put(next());
        }
        return puts;
    }

    private int count(int state) {
        int n = 0;
        for (Amendment a : amendments) {
            n += a.state == state ? 1 : 0;
        }
        return n;
    }

    // ---- the face

    int clause(int parent, int text) {
        Node p = parent == NONE ? null : inBill(parent);
        text(text);
        state(nodes.size() == 40 || (p != null && p.high() == 3) || !amendments.isEmpty());
        return write(p, siblings(p).size(), text, NONE).id;
    }

    int ofClause(int clause, int what) {
        if (clause < 0 || clause >= nodes.size()) {
            throw new IndexOutOfBoundsException();
        }
        range(what, 0, 7);
        Node n = nodes.get(clause);
        int signatures = 0;
        for (Petition p : petitions) {
            signatures += p.clause == n ? p.signatures : 0;
        }
        return new int[] {n.text, n.parent == null ? NONE : n.parent.id, reading().indexOf(n), n.high(),
            n.struck ? 1 : 0, n.below(), n.cameBy, signatures}[what];
    }

    int read(int number) {
        return reading().get(number).id;
    }

    int many(int what) {
        range(what, 0, 11);
        int seats = 0;
        for (Party p : parties) {
            seats += p.seats;
        }
        int closed = 0;
        for (Petition p : petitions) {
            closed += p.clause == null ? 1 : 0;
        }
        return new int[] {nodes.size(), reading().size(), amendments.size(), count(0), count(1), count(2),
            count(3), count(4), parties.size(), seats, sitting ? left : NONE, closed}[what];
    }

    int lay(int kind, int clause, int other) {
        range(kind, 0, 4);
        if (kind >= 2) {
            text(other);
        }
        inBill(clause);
        if (kind == 1) {
            inBill(other);
        }
        state(amendments.size() == 20 || !doable(kind, clause, other));
        Amendment a = new Amendment();
        a.kind = kind;
        a.to = clause;
        a.other = kind == 0 ? NONE : other;
        amendments.add(a);
        return amendments.size() - 1;
    }

    int change(int amendment, int text) {
        Amendment to = amendment(amendment);
        text(text);
        state(amendments.size() == 20 || to.state != 0 || to.kind < 2 || to.kind > 4);
        Amendment a = new Amendment();
        a.kind = 5;
        a.to = amendment;
        a.other = text;
        amendments.add(a);
        return amendments.size() - 1;
    }

    int withdraw(int amendment) {
        state(amendment(amendment).state != 0);
        int before = count(3);
        finish(amendment, 4, NONE);
        return count(3) - before;
    }

    int ofAmendment(int amendment, int what) {
        Amendment a = amendment(amendment);
        range(what, 0, 5);
        return new int[] {a.kind, a.to, a.other, a.state, a.by, a.made}[what];
    }

    int next() {
        for (Node n : reading()) {
            for (int kind = 0; kind <= 4; kind++) {
                for (int i = 0; i < amendments.size(); i++) {
                    Amendment a = amendments.get(i);
                    if (a.state == 0 && a.kind == kind && a.to == n.id) {
                        for (int j = 0; j < amendments.size(); j++) {
                            Amendment b = amendments.get(j);
                            if (b.state == 0 && b.kind == 5 && b.to == i) {
                                return j;
                            }
                        }
                        return i;
                    }
                }
            }
        }
        return NONE;
    }

    boolean canBeDone(int amendment) {
        Amendment a = amendment(amendment);
        return a.state == 0 && doable(a.kind, a.to, a.other);
    }

    int party(int seats) {
        range(seats, 1, 99);
        state(parties.size() == 5);
        Party p = new Party();
        p.seats = seats;
        parties.add(p);
        return parties.size() - 1;
    }

    int vote(int party, int amendment, int vote) {
        member(party);
        Amendment a = amendment(amendment);
        range(vote, -1, 1);
        state(a.state != 0);
        int before = a.votes[party];
        a.votes[party] = vote;
        return before;
    }

    int quorum(int q) {
        range(q, 0, 100);
        int before = quorum;
        quorum = q;
        return before;
    }

    int sit(int minutes) {
        range(minutes, 0, 300);
        state(parties.isEmpty());
        int over = sitting ? left : 0;
        sitting = true;
        left = minutes;
        for (Party p : parties) {
            p.share = minutes * p.seats / many(9);
        }
        return over;
    }

    int speak(int party, int minutes) {
        Party p = member(party);
        range(minutes, 1, Integer.MAX_VALUE);
        state(!sitting || next() == NONE || p.share < minutes || left < minutes);
        left -= minutes;
        p.share -= minutes;
        p.spoke += minutes;
        return p.share;
    }

    int call() {
        int a = next();
        state(a == NONE || !sitting || left < 3);
        left -= 3;
        put(a);
        for (Petition p : petitions) {
            while (p.clause != null && p.clause.struck) {
                p.clause = p.clause.parent;
            }
        }
        return amendments.get(a).state;
    }

    int ofParty(int party, int what) {
        Party p = member(party);
        range(what, 0, 3);
        int won = 0;
        for (Amendment a : amendments) {
            won += a.state == 1 && a.votes[party] == 1 ? 1 : 0;
        }
        return new int[] {p.seats, sitting ? p.share : NONE, p.spoke, won}[what];
    }

    int petition(int clause, int signatures) {
        Node n = inBill(clause);
        range(signatures, 1, 9999);
        state(petitions.size() == 12);
        Petition p = new Petition();
        p.clause = n;
        p.signatures = signatures;
        petitions.add(p);
        return petitions.size() - 1;
    }

    int tied(int petition) {
        Petition p = petitions.get(petition);
        return p.clause == null ? NONE : p.clause.id;
    }

    double meanBelow() {
        double sum = 0;
        for (Node n : reading()) {
            sum += n.below();
        }
        return reading().isEmpty() ? 0 : sum / reading().size();
    }

    boolean wouldPass(int amendment) {
        Amendment a = amendment(amendment);
        int ayes = 0;
        int voting = 0;
        for (int p = 0; p < parties.size(); p++) {
            ayes += a.votes[p] == 1 ? parties.get(p).seats : 0;
            voting += a.votes[p] != 0 ? parties.get(p).seats : 0;
        }
        return ayes > voting - ayes && voting * 100 >= quorum * many(9);
    }

    int wouldMoot(int amendment) {
        if (!canBeDone(amendment)) {
            return 0;
        }
        Model m = copy();
        m.pass(amendment);
        return m.count(3) - count(3);
    }

    int inTheEnd() {
        Model m = copy();
        m.toTheEnd();
        return m.reading().size();
    }

    int otherwise(int party) {
        member(party);
        Model with = copy();
        with.toTheEnd();
        Model without = copy();
        for (Amendment a : without.amendments) {
            a.votes[party] = 0;
        }
        without.toTheEnd();
        int changed = 0;
        for (int i = 0; i < amendments.size(); i++) {
            changed += with.amendments.get(i).state != without.amendments.get(i).state ? 1 : 0;
        }
        return changed;
    }

    int calledAt(int k) {
        return copy().toTheEnd().get(k);
    }

    long digest() {
        long d = 5754;
        for (int i = 0; i < 12; i++) {
            d = d * 31 + many(i);
        }
        for (Node n : reading()) {
            d = d * 31 + n.id;
        }
        for (Node n : nodes) {
            for (int i = 0; i < 8; i++) {
                d = d * 31 + ofClause(n.id, i);
            }
        }
        for (int a = 0; a < amendments.size(); a++) {
            for (int i = 0; i < 6; i++) {
                d = d * 31 + ofAmendment(a, i);
            }
            d = d * 31 + wouldMoot(a);
        }
        for (int p = 0; p < parties.size(); p++) {
            for (int i = 0; i < 4; i++) {
                d = d * 31 + ofParty(p, i);
            }
            d = d * 31 + otherwise(p);
        }
        for (int p = 0; p < petitions.size(); p++) {
            d = d * 31 + tied(p);
        }
        d = d * 31 + next();
        return d * 31 + inTheEnd();
    }
}
