import java.util.Random;

/** Runs of 512 drawn calls, the same ones each time, with every answer and then every register against the model. */
public final class ModelTest {
    private static final int RUNS = 1500;
    private static final int CALLS = 512;
    private static final int KINDS = 26;

    private final Random random;
    private final ValueTrees x = new ValueTrees();
    private final Model m = new Model();
    private final int run;
    private final int registers;
    private int calls = 0;
    private static final long[] ANSWERS = new long[KINDS * 3];

    private ModelTest(int run) {
        this.run = run;
        this.random = new Random(run);
        // Few registers make operands that fit each other likelier, many let more kinds live at once.
        this.registers = run % 3 == 0 ? 16 : run % 3 == 1 ? 8 : 5;
    }

    public static void main(String[] args) {
        for (int run = 0; run < RUNS; run++) {
            ModelTest one = new ModelTest(run);
            one.beginWithTypes();
            while (one.calls < CALLS) {
                one.drawnCall();
            }
        }
        everyCallWasAnsweredWell();
        Due.end();
    }

    private void due(int call, String text, long got, long want) {
        calls++;
        Due.is("run " + run + ", call " + calls + ", " + text, got, want);
        int way = want == -2 ? 2 : want == -1 ? 1 : 0;
        ANSWERS[call * 3 + way]++;
    }

    /** A model test that never gets past NONE would show nothing. */
    private static void everyCallWasAnsweredWell() {
        for (int call = 0; call < KINDS; call++) {
            Due.yes("call " + call + " was answered well", ANSWERS[call * 3] > 100);
        }
        int[] full = {8, 9, 10};
        for (int call : full) {
            Due.yes("call " + call + " was answered with FULL", ANSWERS[call * 3 + 2] > 0);
        }
    }

    private void beginWithTypes() {
        for (int i = 0; i < 6; i++) {
            type(10 + random.nextInt(9), random.nextInt(9), random.nextInt(9));
        }
    }

    private int register() {
        return random.nextInt(60) == 0 ? random.nextInt(24) - 4 : random.nextInt(registers);
    }

    private int typeNumber() {
        return random.nextInt(40) == 0 ? random.nextInt(2030) - 10 : random.nextInt(m.typeCount());
    }

    /** Of the types that have such a word, one; any other now and then. */
    private int typeOfWord(int low, int high) {
        int t = typeNumber();
        for (int tries = 0; tries < 20; tries++) {
            if (t >= 0 && t < m.typeCount() && m.wordOfType(t) >= low && m.wordOfType(t) <= high) {
                return t;
            }
            t = typeNumber();
        }
        return t;
    }

    /** A register that has something of a type; if there is none, a simple one is made for it. */
    private int registerWith(int type) {
        int r = register();
        for (int tries = 0; tries < 40 && m.typeOf(r) != type; tries++) {
            r = random.nextInt(registers);
        }
        if (type >= 0 && m.typeOf(r) != type) {
            makeSome(r, type, 0);
        }
        return r;
    }

    private void makeSome(int r, int type, int depth) {
        int word = m.ofType(type, 0);
        if (word <= 1) {
            simple(r, word == 0 ? 0 : 1 + random.nextInt(2));
        } else if (word == 5 || word == 6) {
            bytes(r, type, value(), random.nextInt(9));
        } else if (word <= 8) {
            number(r, type, value());
        } else if (depth < 3 && (word == 14 || word == 10 && random.nextInt(4) != 0)) {
            int side = word == 10 ? 0 : random.nextInt(2);
            makeSome(r, m.ofType(type, 1 + side), depth + 1);
            wrap(r, type, side, r);
        } else if (depth < 3 && word == 18) {
            makeSome(r, m.ofType(type, 1), depth + 1);
            makeSome(15, m.ofType(type, 2), depth + 1);
            pair(r, r, 15);
        } else {
            empty(r, type);
        }
    }

    private int registerOfWord(int low, int high) {
        int r = register();
        for (int tries = 0; tries < 30; tries++) {
            int word = m.ofType(m.typeOf(r), 0);
            if (word >= low && word <= high) {
                return r;
            }
            r = random.nextInt(registers);
        }
        return r;
    }

    private long value() {
        long v = random.nextLong();
        switch (random.nextInt(6)) {
            case 0: return v;
            case 1: return v >> 32;
            case 2: return (v & 255) - 128;
            case 3: return (1L << (v & 63)) - (v >>> 63);
            default: return v & 15;
        }
    }

    private int small() {
        return random.nextInt(30) == 0 ? random.nextInt() : random.nextInt(4) - (random.nextInt(10) == 0 ? 1 : 0);
    }

    private void type(int word, int left, int right) {
        due(0, "type(" + word + ", " + left + ", " + right + ")", x.type(word, left, right), m.type(word, left, right));
    }

    private void number(int r, int type, long v) {
        due(2, "number(" + r + ", " + type + ", " + v + ")", x.number(r, type, v), m.number(r, type, v));
    }

    private void bytes(int r, int type, long letters, int n) {
        due(4, "bytes(" + r + ", " + type + ", " + letters + ", " + n + ")",
                x.bytes(r, type, letters, n), m.bytes(r, type, letters, n));
    }

    private void simple(int r, int what) {
        due(5, "simple(" + r + ", " + what + ")", x.simple(r, what), m.simple(r, what));
    }

    private void empty(int r, int type) {
        due(6, "empty(" + r + ", " + type + ")", x.empty(r, type), m.empty(r, type));
    }

    private void wrap(int r, int type, int side, int from) {
        due(7, "wrap(" + r + ", " + type + ", " + side + ", " + from + ")",
                x.wrap(r, type, side, from), m.wrap(r, type, side, from));
    }

    private void pair(int r, int a, int b) {
        due(8, "pair(" + r + ", " + a + ", " + b + ")", x.pair(r, a, b), m.pair(r, a, b));
    }

    private void drawnCall() {
        int kind = random.nextInt(100);
        if (kind < 6) {
            drawnType();
        } else if (kind < 32) {
            drawnLeaf();
        } else if (kind < 62) {
            drawnBranch();
        } else if (kind < 78) {
            drawnTakingApart();
        } else {
            drawnLook();
        }
        if (random.nextInt(4) == 0) {
            sameState();
        }
    }

    private void drawnType() {
        if (random.nextInt(3) == 0) {
            int t = typeNumber();
            int what = small();
            due(1, "ofType(" + t + ", " + what + ")", x.ofType(t, what), m.ofType(t, what));
        } else {
            type(random.nextInt(20) == 0 ? random.nextInt(30) - 5 : 10 + random.nextInt(9), typeNumber(), typeNumber());
        }
    }

    private void drawnLeaf() {
        int r = register();
        int t = typeNumber();
        int n = random.nextInt(12) == 0 ? random.nextInt(1100) - 40 : random.nextInt(20);
        long v = value();
        switch (random.nextInt(8)) {
            case 0:
            case 1:
            case 2: {
                int[] types = {2, 3, 4, 8, t, 2, 3};
                int type = types[random.nextInt(types.length)];
                number(r, type, v);
                return;
            }
            case 3: {
                int from = registerOfWord(2, 8);
                due(3, "times(" + r + ", " + from + ", " + n + ")", x.times(r, from, n), m.times(r, from, n));
                return;
            }
            case 4: {
                int type = random.nextInt(8) == 0 ? t : 5 + random.nextInt(2);
                int count = random.nextInt(11) - 1;
                bytes(r, type, v, count);
                return;
            }
            case 5: simple(r, small()); return;
            default: empty(r, typeOfWord(10, 16));
        }
    }

    private void drawnBranch() {
        int r = register();
        switch (random.nextInt(7)) {
            case 0: {
                int type = typeOfWord(10, 14);
                int side = random.nextInt(9) == 0 ? small() : random.nextInt(2);
                int from = registerWith(m.ofType(type, side + 1));
                wrap(r, type, side, from);
                return;
            }
            case 1: pair(r, register(), register()); return;
            case 2: {
                int list = registerOfWord(11, 11);
                int from = registerWith(m.ofType(m.typeOf(list), 1));
                due(9, "cons(" + r + ", " + from + ", " + list + ")", x.cons(r, from, list), m.cons(r, from, list));
                return;
            }
            case 3:
            case 4:
            case 5: {
                int tree = registerOfWord(12 + 3 * random.nextInt(2), 16);
                int key = registerWith(m.ofType(m.typeOf(tree), 1));
                int value = registerWith(m.ofType(m.typeOf(tree), 2));
                due(10, "put(" + r + ", " + tree + ", " + key + ", " + value + ")",
                        x.put(r, tree, key, value), m.put(r, tree, key, value));
                return;
            }
            default: {
                int tree = registerOfWord(12, 16);
                int key = registerWith(m.ofType(m.typeOf(tree), 1));
                due(11, "remove(" + r + ", " + tree + ", " + key + ")", x.remove(r, tree, key), m.remove(r, tree, key));
            }
        }
    }

    private void drawnTakingApart() {
        int r = register();
        switch (random.nextInt(6)) {
            case 0: {
                int from = registerOfWord(10, 18);
                int which = random.nextInt(9) == 0 ? small() : random.nextInt(2);
                due(12, "part(" + r + ", " + from + ", " + which + ")", x.part(r, from, which), m.part(r, from, which));
                return;
            }
            case 1: {
                int tree = registerOfWord(12, 16);
                int key = registerWith(m.ofType(m.typeOf(tree), 1));
                due(13, "get(" + r + ", " + tree + ", " + key + ")", x.get(r, tree, key), m.get(r, tree, key));
                return;
            }
            case 2: {
                int tree = registerOfWord(12, 16);
                int i = m.many(tree) > 1 ? random.nextInt(m.many(tree)) : small();
                int which = random.nextInt(9) == 0 ? small() : random.nextInt(2);
                due(14, "at(" + r + ", " + tree + ", " + i + ", " + which + ")",
                        x.at(r, tree, i, which), m.at(r, tree, i, which));
                return;
            }
            case 3:
            case 4: {
                int from = register();
                due(15, "move(" + r + ", " + from + ")", x.move(r, from) ? 1 : 0, m.move(r, from) ? 1 : 0);
                return;
            }
            default:
                if (random.nextInt(3) == 0) {
                    due(16, "clear(" + r + ")", x.clear(r) ? 1 : 0, m.clear(r) ? 1 : 0);
                }
        }
    }

    private void drawnLook() {
        int r = register();
        int i = small();
        switch (random.nextInt(9)) {
            case 0: due(17, "typeOf(" + r + ")", x.typeOf(r), m.typeOf(r)); return;
            case 1: due(18, "length(" + r + ")", x.length(r), m.length(r)); return;
            case 2: due(19, "which(" + r + ")", x.which(r), m.which(r)); return;
            case 3: due(20, "many(" + r + ")", x.many(r), m.many(r)); return;
            case 4: due(21, "digit(" + r + ", " + i + ")", x.digit(r, i), m.digit(r, i)); return;
            case 5: due(22, "isBelow(" + r + ")", x.isBelow(r) ? 1 : 0, m.isBelow(r) ? 1 : 0); return;
            case 6: due(23, "byteAt(" + r + ", " + i + ")", x.byteAt(r, i), m.byteAt(r, i)); return;
            case 7: {
                int tree = registerOfWord(12, 16);
                int key = registerWith(m.ofType(m.typeOf(tree), 1));
                due(24, "has(" + tree + ", " + key + ")", x.has(tree, key), m.has(tree, key));
                return;
            }
            default: {
                int other = registerWith(m.typeOf(r));
                due(25, "compare(" + r + ", " + other + ")", x.compare(r, other), m.compare(r, other));
            }
        }
    }

    /** These looks are not counted as calls: no answer depends on how many there were. */
    private void sameState() {
        for (int r = 0; r < 16; r++) {
            String where = "run " + run + ", behind call " + calls + ", register " + r + ": ";
            Due.is(where + "typeOf", x.typeOf(r), m.typeOf(r));
            Due.is(where + "length", x.length(r), m.length(r));
            Due.is(where + "which", x.which(r), m.which(r));
            Due.is(where + "many", x.many(r), m.many(r));
            Due.is(where + "digit 0", x.digit(r, 0), m.digit(r, 0));
            Due.is(where + "digit 5", x.digit(r, 5), m.digit(r, 5));
            Due.is(where + "byteAt 0", x.byteAt(r, 0), m.byteAt(r, 0));
            Due.is(where + "isBelow", x.isBelow(r) ? 1 : 0, m.isBelow(r) ? 1 : 0);
            Due.is(where + "compare", x.compare(r, (r + 1) % registers), m.compare(r, (r + 1) % registers));
        }
    }
}
