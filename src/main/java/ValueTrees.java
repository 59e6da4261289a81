import java.util.ArrayList;

/** Keeps values of types in sixteen registers: numbers, bytes, pairs, options, alternatives, lists, sets and maps in order. */
public final class ValueTrees {
    public static final int NONE = -1;
    public static final int FULL = -2;

    private static final int UNIT = 0;
    private static final int BOOL = 1;
    private static final int INT = 2;
    private static final int NAT = 3;
    private static final int MUTEZ = 4;
    private static final int STRING = 5;
    private static final int BYTES = 6;
    private static final int TIMESTAMP = 8;
    private static final int OPERATION = 9;
    private static final int OPTION = 10;
    private static final int LIST = 11;
    private static final int SET = 12;
    private static final int CONTRACT = 13;
    private static final int OR = 14;
    private static final int MAP = 15;
    private static final int BIG_MAP = 16;
    private static final int LAMBDA = 17;
    private static final int PAIR = 18;

    private static final int COMPARABLE = 1;
    private static final int DATA = 2;
    private static final int STORABLE = 4;
    private static final int ALL_MARKS = 7;

    private static final int REGISTERS = 16;
    private static final int MOST_TYPES = 2000;
    private static final int MOST_PARTS = 200;
    private static final int LONGEST = 160;
    private static final int MOST_BITS = 1024;
    private static final int MUTEZ_BITS = 63;
    private static final int MOST_TIMES = 1000;
    private static final int MOST_LETTERS = 8;
    private static final int DIGIT_BITS = 16;
    private static final int DIGIT_MASK = 65535;

    private static final int SHORT_HEAD = 2;
    private static final int LONG_HEAD = 5;
    private static final int NOT_COMPARABLE = 2;

    // A pair in the first place of a pair costs four of the 160, so no value nests them deeper than forty.
    private static final int DEEPEST = 60;

    private final ArrayList<Type> types;
    private final Value[] registers;

    public ValueTrees() {
        types = new ArrayList<>();
        for (int word = UNIT; word <= OPERATION; word++) {
            types.add(new Type(word, NONE, NONE, 1, marksOf(word, ALL_MARKS, ALL_MARKS)));
        }
        registers = new Value[REGISTERS];
    }

    // ---- types

    public int type(int word, int left, int right) {
        Type wanted = wantedType(word, left, right);
        return wanted == null ? NONE : numberOf(wanted);
    }

    public int ofType(int t, int what) {
        Type of = typeNumbered(t);
        if (of == null) {
            return NONE;
        }
        switch (what) {
            case 0: return of.word;
            case 1: return of.left;
            case 2: return of.right;
            case 3: return of.marks;
            default: return NONE;
        }
    }

    // ---- making

    public int number(int r, int type, long v) {
        boolean signed = type == INT || type == TIMESTAMP;
        boolean natural = type == NAT || type == MUTEZ;
        if (!signed && !(natural && v >= 0)) {
            return NONE;
        }
        // The lowest long has no positive one of its own, but read without a sign its bits are its size.
        long size = v < 0 ? -v : v;
        int bits = bitsOf(size);
        return keep(r, new Whole(type, v < 0, bits, digitsOf(size, bits)));
    }

    public int times(int r, int from, int n) {
        if (!(held(from) instanceof Whole old) || n < 0 || n > MOST_TIMES) {
            return NONE;
        }
        int bits = old.bits == 0 ? 0 : old.bits + n;
        if (bits > (old.type == MUTEZ ? MUTEZ_BITS : MOST_BITS)) {
            return NONE;
        }
        return keep(r, new Whole(old.type, old.below, bits, shifted(old.digits, n, bits)));
    }

    public int bytes(int r, int type, long letters, int n) {
        boolean fits = (type == STRING || type == BYTES) && n >= 0 && n <= MOST_LETTERS;
        return fits ? keep(r, new Row(type, letters, n)) : NONE;
    }

    public int simple(int r, int what) {
        switch (what) {
            case 0: return keep(r, new Choice(UNIT, NONE, null));
            case 1: return keep(r, new Choice(BOOL, 0, null));
            case 2: return keep(r, new Choice(BOOL, 1, null));
            default: return NONE;
        }
    }

    public int empty(int r, int type) {
        switch (wordOf(type)) {
            case OPTION: return keep(r, new Choice(type, 0, null));
            case LIST: return keep(r, new Chain(type));
            case SET:
            case MAP:
            case BIG_MAP: return keep(r, new Tree(type, LONG_HEAD, new Entry[0]));
            default: return NONE;
        }
    }

    public int wrap(int r, int type, int side, int from) {
        Value inside = held(from);
        if (inside == null || inside.type != sideType(type, side)) {
            return NONE;
        }
        return keep(r, new Choice(type, wordOf(type) == OPTION ? 1 : side, inside));
    }

    public int pair(int r, int a, int b) {
        Value first = held(a);
        Value second = held(b);
        if (first == null || second == null || !isRegister(r)) {
            return NONE;
        }
        Type wanted = wantedType(PAIR, first.type, second.type);
        if (wanted == null) {
            return NONE;
        }
        // A pair that is too long must leave no new type behind, so this comes ahead of numberOf.
        if (Couple.lengthOf(first, second) > LONGEST) {
            return FULL;
        }
        int type = numberOf(wanted);
        return type == FULL ? FULL : keep(r, new Couple(type, first, second));
    }

    public int cons(int r, int from, int list) {
        Value first = held(from);
        if (first == null || !(held(list) instanceof Chain rest) || first.type != leftOf(rest.type)) {
            return NONE;
        }
        return keep(r, new Chain(first, rest));
    }

    public int put(int r, int tree, int key, int value) {
        Tree old = treeFor(tree, key);
        Value newKey = held(key);
        if (old == null || newKey == null) {
            return NONE;
        }
        if (wordOf(old.type) == SET) {
            return keep(r, withEntry(old, new Entry(newKey, null)));
        }
        Value newValue = held(value);
        if (newValue == null || newValue.type != rightOf(old.type)) {
            return NONE;
        }
        return keep(r, withEntry(old, new Entry(newKey, newValue)));
    }

    public int remove(int r, int tree, int key) {
        Tree old = treeFor(tree, key);
        Value oldKey = held(key);
        if (old == null || oldKey == null) {
            return NONE;
        }
        int place = placeOf(old, oldKey);
        return keep(r, isAt(old, place, oldKey) ? withoutEntry(old, place) : old);
    }

    // ---- taking apart

    public int part(int r, int from, int which) {
        Value whole = held(from);
        Value found = null;
        if (whole instanceof Choice choice) {
            found = oneOf(which, choice.inside, null);
        } else if (whole instanceof Couple couple) {
            found = oneOf(which, couple.first, couple.second);
        } else if (whole instanceof Chain chain) {
            found = oneOf(which, chain.first, chain.rest);
        }
        return keep(r, found);
    }

    public int get(int r, int tree, int key) {
        Tree from = treeFor(tree, key);
        Value wanted = held(key);
        if (from == null || wanted == null) {
            return NONE;
        }
        int place = placeOf(from, wanted);
        return isAt(from, place, wanted) ? keep(r, from.entries[place].value) : NONE;
    }

    public int at(int r, int tree, int i, int which) {
        if (!(held(tree) instanceof Tree from) || i < 0 || i >= from.entries.length) {
            return NONE;
        }
        return keep(r, oneOf(which, from.entries[i].key, from.entries[i].value));
    }

    public boolean move(int r, int from) {
        if (!isRegister(r) || !isRegister(from)) {
            return false;
        }
        registers[r] = registers[from];
        return true;
    }

    public boolean clear(int r) {
        if (!isRegister(r)) {
            return false;
        }
        registers[r] = null;
        return true;
    }

    // ---- looking

    public int typeOf(int r) {
        Value value = held(r);
        return value == null ? NONE : value.type;
    }

    public int length(int r) {
        Value value = held(r);
        return value == null ? NONE : value.length;
    }

    public int which(int r) {
        return held(r) instanceof Choice choice ? choice.side : NONE;
    }

    public int many(int r) {
        Value value = held(r);
        if (value instanceof Chain chain) {
            return chain.count;
        }
        if (value instanceof Tree tree) {
            return tree.entries.length;
        }
        return value instanceof Row row ? row.count : NONE;
    }

    public int digit(int r, int i) {
        if (!(held(r) instanceof Whole whole) || i < 0) {
            return NONE;
        }
        return i < whole.digits.length ? whole.digits[i] : 0;
    }

    public boolean isBelow(int r) {
        return held(r) instanceof Whole whole && whole.below;
    }

    public int byteAt(int r, int i) {
        if (!(held(r) instanceof Row row) || i < 0 || i >= row.count) {
            return NONE;
        }
        return row.letter(i);
    }

    public int has(int tree, int key) {
        Tree in = treeFor(tree, key);
        Value wanted = held(key);
        if (in == null || wanted == null) {
            return NONE;
        }
        return isAt(in, placeOf(in, wanted), wanted) ? 1 : 0;
    }

    public int compare(int a, int b) {
        Value one = held(a);
        Value other = held(b);
        if (one == null || other == null || one.type != other.type) {
            return NOT_COMPARABLE;
        }
        Type type = typeNumbered(one.type);
        if (type == null || !type.isMarked(COMPARABLE)) {
            return NOT_COMPARABLE;
        }
        return order(one, other, 0);
    }

    // ---- registers

    private static boolean isRegister(int r) {
        return r >= 0 && r < REGISTERS;
    }

    private Value held(int r) {
        return isRegister(r) ? registers[r] : null;
    }

    /** The end of every call that makes a value: what is wrong comes ahead of what is too long. */
    private int keep(int r, Value value) {
        if (value == null || !isRegister(r)) {
            return NONE;
        }
        if (value.length > LONGEST) {
            return FULL;
        }
        registers[r] = value;
        return value.length;
    }

    private static Value oneOf(int which, Value first, Value second) {
        if (which == 0) {
            return first;
        }
        return which == 1 ? second : null;
    }

    // ---- types, inside

    private Type typeNumbered(int t) {
        return t >= 0 && t < types.size() ? types.get(t) : null;
    }

    private int wordOf(int t) {
        Type type = typeNumbered(t);
        return type == null ? NONE : type.word;
    }

    private int leftOf(int t) {
        Type type = typeNumbered(t);
        return type == null ? NONE : type.left;
    }

    private int rightOf(int t) {
        Type type = typeNumbered(t);
        return type == null ? NONE : type.right;
    }

    /** The type that an option or an alternative has inside on a side; NONE where it has no such side. */
    private int sideType(int t, int side) {
        int word = wordOf(t);
        if (side == 0 && (word == OPTION || word == OR)) {
            return leftOf(t);
        }
        return side == 1 && word == OR ? rightOf(t) : NONE;
    }

    /** The type as it would be, not yet numbered; null where there can be none such. */
    private Type wantedType(int word, int left, int right) {
        if (word < OPTION || word > PAIR) {
            return null;
        }
        boolean ofTwo = word >= OR;
        Type first = typeNumbered(left);
        Type second = ofTwo ? typeNumbered(right) : first;
        if (first == null || second == null) {
            return null;
        }
        boolean hasKeys = word == SET || word == MAP || word == BIG_MAP;
        if (hasKeys && !first.isMarked(COMPARABLE)) {
            return null;
        }
        int parts = 1 + first.parts + (ofTwo ? second.parts : 0);
        if (parts > MOST_PARTS) {
            return null;
        }
        int marks = marksOf(word, first.marks & second.marks, second.marks);
        return new Type(word, left, ofTwo ? right : NONE, parts, marks);
    }

    private int numberOf(Type wanted) {
        int count = types.size();
        for (int t = 0; t < count; t++) {
            if (types.get(t).isLike(wanted)) {
                return t;
            }
        }
        if (count >= MOST_TYPES) {
            return FULL;
        }
        types.add(wanted);
        return count;
    }

    private static int marksOf(int word, int marksOfAll, int marksOfRight) {
        boolean ordered = word <= TIMESTAMP || word == OPTION || word == OR || word == PAIR;
        boolean foreign = word == OPERATION || word == CONTRACT || word == BIG_MAP || word == LAMBDA;
        int marks = ordered ? marksOfAll & COMPARABLE : 0;
        if (!foreign && (marksOfAll & DATA) != 0) {
            return marks | DATA | STORABLE;
        }
        boolean storableMap = word == BIG_MAP && (marksOfRight & DATA) != 0;
        boolean storablePair = word == PAIR && (marksOfAll & STORABLE) != 0;
        return storableMap || storablePair ? marks | STORABLE : marks;
    }

    // ---- numbers, inside

    private static int bitsOf(long size) {
        int bits = 0;
        while (bits < 64 && size >>> bits != 0) {
            bits++;
        }
        return bits;
    }

    private static int digitCount(int bits) {
        return (bits + DIGIT_BITS - 1) / DIGIT_BITS;
    }

    private static int[] digitsOf(long size, int bits) {
        int[] digits = new int[digitCount(bits)];
        for (int i = 0; i < digits.length; i++) {
            digits[i] = (int) (size >>> DIGIT_BITS * i) & DIGIT_MASK;
        }
        return digits;
    }

    private static int[] shifted(int[] digits, int n, int bits) {
        int[] result = new int[digitCount(bits)];
        int whole = n / DIGIT_BITS;
        int rest = n % DIGIT_BITS;
        for (int i = whole; i < result.length; i++) {
            int here = i - whole < digits.length ? digits[i - whole] << rest : 0;
            int below = i > whole && i - whole - 1 < digits.length ? digits[i - whole - 1] << rest >>> DIGIT_BITS : 0;
            result[i] = (here & DIGIT_MASK) | below;
        }
        return result;
    }

    // ---- order

    private static int intOrder(int a, int b) {
        if (a == b) {
            return 0;
        }
        return a < b ? -1 : 1;
    }

    /** The order of two of one comparable type. It goes down by calls only in the first of a pair, which keeps the calls few. */
    private static int order(Value a, Value b, int depth) {
        Value one = a;
        Value other = b;
        for (int step = 0; step < LONGEST && depth < DEEPEST; step++) {
            if (one instanceof Couple left && other instanceof Couple right) {
                int first = order(left.first, right.first, depth + 1);
                if (first != 0) {
                    return first;
                }
                one = left.second;
                other = right.second;
            } else if (one instanceof Choice left && other instanceof Choice right) {
                if (left.side != right.side) {
                    return intOrder(left.side, right.side);
                }
                one = left.inside;
                other = right.inside;
            } else {
                return leafOrder(one, other);
            }
        }
        return 0;
    }

    private static int leafOrder(Value a, Value b) {
        if (a instanceof Whole one && b instanceof Whole other) {
            return numberOrder(one, other);
        }
        if (a instanceof Row one && b instanceof Row other) {
            return rowOrder(one, other);
        }
        return 0;
    }

    private static int numberOrder(Whole a, Whole b) {
        int larger = a.below ? -1 : 1;
        if (a.below != b.below) {
            return larger;
        }
        if (a.bits != b.bits) {
            return a.bits > b.bits ? larger : -larger;
        }
        for (int i = Math.min(a.digits.length, b.digits.length) - 1; i >= 0; i--) {
            if (a.digits[i] != b.digits[i]) {
                return a.digits[i] > b.digits[i] ? larger : -larger;
            }
        }
        return 0;
    }

    private static int rowOrder(Row a, Row b) {
        int shorter = Math.min(a.count, b.count);
        for (int i = 0; i < shorter; i++) {
            if (a.letter(i) != b.letter(i)) {
                return intOrder(a.letter(i), b.letter(i));
            }
        }
        return intOrder(a.count, b.count);
    }

    // ---- sets and maps, inside

    /** The set or map of a register, if the other register has something of the type of its keys; else null. */
    private Tree treeFor(int tree, int key) {
        Value wanted = held(key);
        if (wanted == null || !(held(tree) instanceof Tree found)) {
            return null;
        }
        return wanted.type == leftOf(found.type) ? found : null;
    }

    /** Where a key stands, or where it would. */
    private static int placeOf(Tree tree, Value key) {
        int place = 0;
        while (place < tree.entries.length && order(tree.entries[place].key, key, 0) < 0) {
            place++;
        }
        return place;
    }

    private static boolean isAt(Tree tree, int place, Value key) {
        return place >= 0 && place < tree.entries.length && order(tree.entries[place].key, key, 0) == 0;
    }

    private static Tree withEntry(Tree old, Entry added) {
        int place = placeOf(old, added.key);
        Tree others = isAt(old, place, added.key) ? withoutEntry(old, place) : old;
        Entry[] entries = new Entry[others.entries.length + 1];
        for (int i = 0; i < entries.length; i++) {
            if (i == place) {
                entries[i] = added;
            } else {
                entries[i] = others.entries[i < place ? i : i - 1];
            }
        }
        return new Tree(old.type, others.length + added.length, entries);
    }

    private static Tree withoutEntry(Tree old, int place) {
        if (place < 0 || place >= old.entries.length) {
            return old;
        }
        Entry[] entries = new Entry[old.entries.length - 1];
        for (int i = 0; i < entries.length; i++) {
            entries[i] = old.entries[i < place ? i : i + 1];
        }
        return new Tree(old.type, old.length - old.entries[place].length, entries);
    }

    // ---- classes inside

    /** A type; left and right are numbers of types, or NONE. */
    private static final class Type {
        final int word;
        final int left;
        final int right;
        final int parts;
        final int marks;

        Type(int word, int left, int right, int parts, int marks) {
            this.word = word;
            this.left = left;
            this.right = right;
            this.parts = parts;
            this.marks = marks;
        }

        boolean isMarked(int mark) {
            return (marks & mark) != 0;
        }

        boolean isLike(Type other) {
            return word == other.word && left == other.left && right == other.right;
        }
    }

    /** A value never changes, so that registers and other values may share it. */
    private abstract static class Value {
        final int type;
        final int length;

        Value(int type, int length) {
            this.type = type;
            this.length = length;
        }
    }

    /** A number: its sign, and the digits of its size, the lowest first and none above the highest bit. */
    private static final class Whole extends Value {
        final boolean below;
        final int bits;
        final int[] digits;

        Whole(int type, boolean below, int bits, int[] digits) {
            super(type, lengthOf(bits));
            this.below = below;
            this.bits = bits;
            this.digits = digits;
        }

        // A digit for each seven bits above the lowest six, a begun seven too, is (bits - 6 + 6) / 7 of them.
        private static int lengthOf(int bits) {
            return SHORT_HEAD + bits / 7;
        }
    }

    /** A row of at most eight bytes, the first one lowest. */
    private static final class Row extends Value {
        final long letters;
        final int count;

        Row(int type, long letters, int count) {
            super(type, LONG_HEAD + count);
            this.letters = letters;
            this.count = count;
        }

        int letter(int i) {
            return (int) (letters >>> 8 * i) & 255;
        }
    }

    /** Unit, false, true, none, some, left or right; the first four have nothing inside. */
    private static final class Choice extends Value {
        final int side;
        final Value inside;

        Choice(int type, int side, Value inside) {
            super(type, inside == null ? SHORT_HEAD : SHORT_HEAD + inside.length);
            this.side = side;
            this.inside = inside;
        }
    }

    private static final class Couple extends Value {
        final Value first;
        final Value second;

        Couple(int type, Value first, Value second) {
            super(type, lengthOf(first, second));
            this.first = first;
            this.second = second;
        }

        static int lengthOf(Value first, Value second) {
            return SHORT_HEAD + first.length + second.length;
        }
    }

    /** A list: its first and the others, both null when it is empty. */
    private static final class Chain extends Value {
        final Value first;
        final Chain rest;
        final int count;

        Chain(int type) {
            super(type, LONG_HEAD);
            this.first = null;
            this.rest = null;
            this.count = 0;
        }

        Chain(Value first, Chain rest) {
            super(rest.type, rest.length + first.length);
            this.first = first;
            this.rest = rest;
            this.count = rest.count + 1;
        }
    }

    /** A key of a set, map or big_map, with its value; in a set that is null. */
    private static final class Entry {
        final Value key;
        final Value value;
        final int length;

        Entry(Value key, Value value) {
            this.key = key;
            this.value = value;
            this.length = value == null ? key.length : SHORT_HEAD + key.length + value.length;
        }
    }

    /** A set, map or big_map: its entries, in the order of their keys. */
    private static final class Tree extends Value {
        final Entry[] entries;

        Tree(int type, int length, Entry[] entries) {
            super(type, length);
            this.entries = entries;
        }
    }
}
