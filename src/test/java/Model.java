import java.math.BigInteger;
import java.util.ArrayList;
import java.util.Arrays;
import java.util.List;
import java.util.TreeMap;

/**
 * The document written a second time, with the Java library and by other means: types and values are trees that
 * are walked anew for each question, and nothing about them is remembered.
 */
final class Model {
    static final int NONE = -1;
    static final int FULL = -2;

    /** A type: its word and the types in it. */
    record Kind(int word, List<Kind> in) {
        int parts() {
            int sum = 1;
            for (Kind k : in) {
                sum += k.parts();
            }
            return sum;
        }

        boolean contains(int wanted) {
            return word == wanted || in.stream().anyMatch(k -> k.contains(wanted));
        }

        boolean comparable() {
            boolean may = word <= 8 || word == 10 || word == 14 || word == 18;
            return may && in.stream().allMatch(Kind::comparable);
        }

        boolean data() {
            return !contains(9) && !contains(13) && !contains(16) && !contains(17);
        }

        boolean storable() {
            return data() || word == 16 && in.get(1).data() || word == 18 && in.get(0).storable() && in.get(1).storable();
        }
    }

    /** A value: what is inside is a BigInteger, a row of bytes, a number of a case, or one of those below. */
    record Thing(Kind kind, Object inside) {
    }

    record Case(int side, Thing thing) {
    }

    record Both(Thing first, Thing second) {
    }

    private final List<Kind> kinds = new ArrayList<>();
    private final Thing[] registers = new Thing[16];

    Model() {
        for (int word = 0; word < 10; word++) {
            kinds.add(new Kind(word, List.of()));
        }
    }

    int typeCount() {
        return kinds.size();
    }

    int wordOfType(int t) {
        return kinds.get(t).word();
    }

    // ---- lengths and order

    @SuppressWarnings("unchecked")
    private static TreeMap<Thing, Thing> map(Thing t) {
        return (TreeMap<Thing, Thing>) t.inside();
    }

    @SuppressWarnings("unchecked")
    private static List<Thing> list(Thing t) {
        return (List<Thing>) t.inside();
    }

    private static int measure(Thing t) {
        if (t.inside() instanceof BigInteger n) {
            int digits = 0;
            for (BigInteger left = n.abs().divide(BigInteger.valueOf(64)); left.signum() > 0; digits++) {
                left = left.divide(BigInteger.valueOf(128));
            }
            return 2 + digits;
        }
        if (t.inside() instanceof byte[] row) {
            return 5 + row.length;
        }
        if (t.inside() instanceof Case c) {
            return c.thing() == null ? 2 : 2 + measure(c.thing());
        }
        if (t.inside() instanceof Both b) {
            return 2 + measure(b.first()) + measure(b.second());
        }
        int sum = 5;
        if (t.inside() instanceof List) {
            for (Thing one : list(t)) {
                sum += measure(one);
            }
            return sum;
        }
        for (var entry : map(t).entrySet()) {
            sum += measure(entry.getKey());
            sum += t.kind().word() == 12 ? 0 : 2 + measure(entry.getValue());
        }
        return sum;
    }

    private static int order(Thing a, Thing b) {
        if (a.inside() instanceof BigInteger n) {
            return n.compareTo((BigInteger) b.inside());
        }
        if (a.inside() instanceof byte[] row) {
            return Integer.signum(Arrays.compareUnsigned(row, (byte[]) b.inside()));
        }
        if (a.inside() instanceof Case c) {
            Case d = (Case) b.inside();
            if (c.side() != d.side() || c.thing() == null) {
                return Integer.compare(c.side(), d.side());
            }
            return order(c.thing(), d.thing());
        }
        Both c = (Both) a.inside();
        Both d = (Both) b.inside();
        int first = order(c.first(), d.first());
        return first != 0 ? first : order(c.second(), d.second());
    }

    // ---- help

    private static boolean register(int r) {
        return 0 <= r && r <= 15;
    }

    private Thing in(int r) {
        return register(r) ? registers[r] : null;
    }

    private Kind kind(int t) {
        return 0 <= t && t < kinds.size() ? kinds.get(t) : null;
    }

    private int set(int r, Kind kind, Object inside) {
        if (!register(r)) {
            return NONE;
        }
        Thing made = new Thing(kind, inside);
        int length = measure(made);
        if (length > 160) {
            return FULL;
        }
        registers[r] = made;
        return length;
    }

    private int set(int r, Thing thing) {
        return thing == null ? NONE : set(r, thing.kind(), thing.inside());
    }

    private static boolean isTree(Thing t) {
        return t != null && (t.kind().word() == 12 || t.kind().word() == 15 || t.kind().word() == 16);
    }

    private boolean fits(int tree, int key) {
        Thing t = in(tree);
        Thing k = in(key);
        return isTree(t) && k != null && k.kind().equals(t.kind().in().get(0));
    }

    // ---- the face

    int type(int word, int left, int right) {
        if (word < 10 || word > 18 || kind(left) == null || word > 13 && kind(right) == null) {
            return NONE;
        }
        if ((word == 12 || word == 15 || word == 16) && !kind(left).comparable()) {
            return NONE;
        }
        return numbered(new Kind(word, word > 13 ? List.of(kind(left), kind(right)) : List.of(kind(left))));
    }

    private int numbered(Kind wanted) {
        if (wanted.parts() > 200) {
            return NONE;
        }
        int there = kinds.indexOf(wanted);
        if (there >= 0) {
            return there;
        }
        if (kinds.size() == 2000) {
            return FULL;
        }
        kinds.add(wanted);
        return kinds.size() - 1;
    }

    int ofType(int t, int what) {
        Kind k = kind(t);
        if (k == null || what < 0 || what > 3) {
            return NONE;
        }
        if (what == 0) {
            return k.word();
        }
        if (what == 3) {
            return (k.comparable() ? 1 : 0) + (k.data() ? 2 : 0) + (k.storable() ? 4 : 0);
        }
        return k.in().size() < what ? NONE : kinds.indexOf(k.in().get(what - 1));
    }

    private static boolean isValue(int word, BigInteger n) {
        switch (word) {
            case 2:
            case 8: return true;
            case 3: return n.signum() >= 0;
            case 4: return n.signum() >= 0 && n.compareTo(BigInteger.TWO.pow(63)) < 0;
            default: return false;
        }
    }

    int number(int r, int type, long v) {
        BigInteger n = BigInteger.valueOf(v);
        return isValue(type, n) ? set(r, kind(type), n) : NONE;
    }

    int times(int r, int from, int n) {
        Thing t = in(from);
        if (t == null || !(t.inside() instanceof BigInteger old) || n < 0 || n > 1000) {
            return NONE;
        }
        BigInteger made = old.multiply(BigInteger.TWO.pow(n));
        boolean small = made.abs().compareTo(BigInteger.TWO.pow(1024)) < 0;
        return small && isValue(t.kind().word(), made) ? set(r, t.kind(), made) : NONE;
    }

    int bytes(int r, int type, long letters, int n) {
        if (type != 5 && type != 6 || n < 0 || n > 8) {
            return NONE;
        }
        byte[] row = new byte[n];
        long left = letters;
        for (int i = 0; i < n; i++) {
            row[i] = (byte) left;
            left >>= 8;
        }
        return set(r, kind(type), row);
    }

    int simple(int r, int what) {
        if (what < 0 || what > 2) {
            return NONE;
        }
        return what == 0 ? set(r, kind(0), new Case(0, null)) : set(r, kind(1), new Case(what - 1, null));
    }

    int empty(int r, int type) {
        Kind k = kind(type);
        if (k == null) {
            return NONE;
        }
        switch (k.word()) {
            case 10: return set(r, k, new Case(0, null));
            case 11: return set(r, k, List.of());
            case 12:
            case 15:
            case 16: return set(r, k, new TreeMap<Thing, Thing>(Model::order));
            default: return NONE;
        }
    }

    int wrap(int r, int type, int side, int from) {
        Kind k = kind(type);
        Thing t = in(from);
        if (k == null || t == null || k.word() != 10 && k.word() != 14 || side < 0 || side >= k.in().size()) {
            return NONE;
        }
        if (!t.kind().equals(k.in().get(side))) {
            return NONE;
        }
        return set(r, k, new Case(k.word() == 10 ? 1 : side, t));
    }

    int pair(int r, int a, int b) {
        Thing first = in(a);
        Thing second = in(b);
        if (!register(r) || first == null || second == null) {
            return NONE;
        }
        Kind k = new Kind(18, List.of(first.kind(), second.kind()));
        if (k.parts() > 200) {
            return NONE;
        }
        if (measure(first) + measure(second) + 2 > 160) {
            return FULL;
        }
        int number = numbered(k);
        return number < 0 ? number : set(r, k, new Both(first, second));
    }

    int cons(int r, int from, int list) {
        Thing first = in(from);
        Thing rest = in(list);
        if (first == null || rest == null || rest.kind().word() != 11 || !rest.kind().in().get(0).equals(first.kind())) {
            return NONE;
        }
        List<Thing> all = new ArrayList<>(list(rest));
        all.add(0, first);
        return set(r, rest.kind(), all);
    }

    int put(int r, int tree, int key, int value) {
        if (!fits(tree, key)) {
            return NONE;
        }
        Thing t = in(tree);
        boolean isSet = t.kind().word() == 12;
        if (!isSet && (in(value) == null || !in(value).kind().equals(t.kind().in().get(1)))) {
            return NONE;
        }
        TreeMap<Thing, Thing> copy = new TreeMap<>(map(t));
        copy.put(in(key), isSet ? in(key) : in(value));
        return set(r, t.kind(), copy);
    }

    int remove(int r, int tree, int key) {
        if (!fits(tree, key)) {
            return NONE;
        }
        TreeMap<Thing, Thing> copy = new TreeMap<>(map(in(tree)));
        copy.remove(in(key));
        return set(r, in(tree).kind(), copy);
    }

    int part(int r, int from, int which) {
        Thing t = in(from);
        if (t == null || which < 0 || which > 1) {
            return NONE;
        }
        if (t.inside() instanceof Case c) {
            return which == 0 ? set(r, c.thing()) : NONE;
        }
        if (t.inside() instanceof Both b) {
            return set(r, which == 0 ? b.first() : b.second());
        }
        if (t.kind().word() != 11 || list(t).isEmpty()) {
            return NONE;
        }
        List<Thing> all = list(t);
        return which == 0 ? set(r, all.get(0)) : set(r, t.kind(), new ArrayList<>(all.subList(1, all.size())));
    }

    int get(int r, int tree, int key) {
        if (!fits(tree, key) || in(tree).kind().word() == 12) {
            return NONE;
        }
        return set(r, map(in(tree)).get(in(key)));
    }

    int at(int r, int tree, int i, int which) {
        Thing t = in(tree);
        if (!isTree(t) || i < 0 || i >= map(t).size() || which < 0 || which > (t.kind().word() == 12 ? 0 : 1)) {
            return NONE;
        }
        var found = new ArrayList<>(map(t).entrySet()).get(i);
        return set(r, which == 0 ? found.getKey() : found.getValue());
    }

    boolean move(int r, int from) {
        if (!register(r) || !register(from)) {
            return false;
        }
        registers[r] = registers[from];
        return true;
    }

    boolean clear(int r) {
        if (!register(r)) {
            return false;
        }
        registers[r] = null;
        return true;
    }

    int typeOf(int r) {
        return in(r) == null ? NONE : kinds.indexOf(in(r).kind());
    }

    int length(int r) {
        return in(r) == null ? NONE : measure(in(r));
    }

    int which(int r) {
        return in(r) != null && in(r).kind().word() != 0 && in(r).inside() instanceof Case c ? c.side() : NONE;
    }

    int many(int r) {
        Thing t = in(r);
        if (t == null) {
            return NONE;
        }
        if (t.inside() instanceof byte[] row) {
            return row.length;
        }
        if (isTree(t)) {
            return map(t).size();
        }
        return t.kind().word() == 11 ? list(t).size() : NONE;
    }

    int digit(int r, int i) {
        if (in(r) == null || !(in(r).inside() instanceof BigInteger n) || i < 0) {
            return NONE;
        }
        return i > 100 ? 0 : n.abs().shiftRight(16 * i).and(BigInteger.valueOf(65535)).intValue();
    }

    boolean isBelow(int r) {
        return in(r) != null && in(r).inside() instanceof BigInteger n && n.signum() < 0;
    }

    int byteAt(int r, int i) {
        if (in(r) == null || !(in(r).inside() instanceof byte[] row) || i < 0 || i >= row.length) {
            return NONE;
        }
        return row[i] & 255;
    }

    int has(int tree, int key) {
        if (!fits(tree, key)) {
            return NONE;
        }
        return map(in(tree)).containsKey(in(key)) ? 1 : 0;
    }

    int compare(int a, int b) {
        if (in(a) == null || in(b) == null || !in(a).kind().equals(in(b).kind()) || !in(a).kind().comparable()) {
            return 2;
        }
        return order(in(a), in(b));
    }
}
