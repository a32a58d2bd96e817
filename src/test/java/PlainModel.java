import java.util.ArrayList;
import java.util.BitSet;
import java.util.HashSet;
import java.util.List;
import java.util.Set;

/** The document's terms, written down word by word, to hold the class against. */
final class PlainModel {
    private final int nodes;
    private final List<Integer> creators = new ArrayList<>();
    private final List<Integer> selfParents = new ArrayList<>();
    private final List<Integer> rounds = new ArrayList<>();
    private final List<BitSet> ancestors = new ArrayList<>();
    // A bit a node, kept with each event: looking for the pairs anew takes minutes.
    private final List<BitSet> forkers = new ArrayList<>();

    PlainModel(int nodes) {
        this.nodes = nodes;
    }

    int nodes() {
        return nodes;
    }

    int size() {
        return creators.size();
    }

    int creator(int x) {
        return creators.get(x);
    }

    void event(int node, int self, int other) {
        int x = size();
        creators.add(node);
        selfParents.add(self);
        BitSet known = new BitSet();
        known.set(x);
        if (self >= 0) {
            known.or(ancestors.get(self));
        }
        if (other >= 0) {
            known.or(ancestors.get(other));
        }
        ancestors.add(known);
        forkers.add(forkersWithin(known));
        rounds.add(roundOf(x, self, other));
    }

    private int roundOf(int x, int self, int other) {
        if (self < 0 && other < 0) {
            return 1;
        }
        int r = Math.max(self < 0 ? 0 : rounds.get(self), other < 0 ? 0 : rounds.get(other));
        Set<Integer> found = new HashSet<>();
        for (int w = 0; w < x; w++) {
            if (rounds.get(w) == r && witness(w) && strongly(x, w)) {
                found.add(creator(w));
            }
        }
        return found.size() > 2.0 * nodes / 3.0 ? r + 1 : r;
    }

    boolean ancestor(int x, int y) {
        return ancestors.get(x).get(y);
    }

    boolean own(int x, int y) {
        return x == y || selfParents.get(x) >= 0 && own(selfParents.get(x), y);
    }

    boolean forked(int x, int node) {
        return forkers.get(x).get(node);
    }

    private BitSet forkersWithin(BitSet events) {
        BitSet found = new BitSet();
        for (int a = events.nextSetBit(0); a >= 0; a = events.nextSetBit(a + 1)) {
            for (int b = events.nextSetBit(0); b >= 0; b = events.nextSetBit(b + 1)) {
                if (creator(a) == creator(b) && !own(a, b) && !own(b, a)) {
                    found.set(creator(a));
                }
            }
        }
        return found;
    }

    boolean sees(int x, int y) {
        return ancestor(x, y) && !forked(x, creator(y));
    }

    int strength(int x, int y) {
        Set<Integer> found = new HashSet<>();
        for (int z = 0; z < size(); z++) {
            if (!found.contains(creator(z)) && sees(x, z) && sees(z, y)) {
                found.add(creator(z));
            }
        }
        return found.size();
    }

    boolean strongly(int x, int y) {
        return strength(x, y) > 2.0 * nodes / 3.0;
    }

    int round(int x) {
        return rounds.get(x);
    }

    boolean witness(int x) {
        int self = selfParents.get(x);
        return self < 0 || rounds.get(self) < rounds.get(x);
    }

    int nodesThatForked() {
        BitSet all = new BitSet();
        all.set(0, size());
        return forkersWithin(all).cardinality();
    }

    int greatestRound() {
        return rounds.stream().max(Integer::compare).orElse(0);
    }
}
