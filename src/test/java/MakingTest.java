/** Promises 4 to 13: number, times, bytes, simple, empty, wrap, pair, cons, put, remove. */
public final class MakingTest {
    public static void main(String[] args) {
        numbersOfTheFourTypes();
        lengthsOfNumbers();
        timesShiftsDigits();
        timesHasLimits();
        bytesTakesTheLowest();
        simpleOnes();
        emptyOnes();
        wrapOptionsAndAlternatives();
        pairs();
        pairOfTooManyParts();
        fullPairLeavesNoType();
        consInFront();
        putIntoSets();
        putIntoMaps();
        removeKeys();
        fullChangesNothing();
        noneComesAheadOfFull();
        noRegisterIsNone();
        oldValuesStay();
        Due.end();
    }

    private static void numbersOfTheFourTypes() {
        ValueTrees x = new ValueTrees();
        for (int t = -1; t <= 12; t++) {
            boolean natural = t == 3 || t == 4;
            boolean signed = t == 2 || t == 8;
            Due.is("number(0, " + t + ", 5)", x.number(0, t, 5), natural || signed ? 2 : -1);
            Due.is("number(1, " + t + ", -5)", x.number(1, t, -5), signed ? 2 : -1);
            Due.is("number(2, " + t + ", 0)", x.number(2, t, 0), natural || signed ? 2 : -1);
            if (signed) {
                Due.is("typeOf(1)", x.typeOf(1), t);
                Due.yes("isBelow(1)", x.isBelow(1));
                Due.no("isBelow(0)", x.isBelow(0));
                Due.no("isBelow(2)", x.isBelow(2));
            }
        }
        Due.is("the lowest", x.number(3, 2, Long.MIN_VALUE), 11);
        Due.is("its digit 3", x.digit(3, 3), 32768);
        Due.is("its digit 2", x.digit(3, 2), 0);
        Due.is("its digit 4", x.digit(3, 4), 0);
        Due.yes("it is below", x.isBelow(3));
        Due.is("the highest mutez", x.number(3, 4, Long.MAX_VALUE), 11);
        Due.is("its digit 3", x.digit(3, 3), 32767);
    }

    private static void lengthsOfNumbers() {
        ValueTrees x = new ValueTrees();
        long[] values = {0, 1, 63, 64, 8191, 8192, 1048575, 1048576, 134217727, 134217728};
        int[] lengths = {2, 2, 2, 3, 3, 4, 4, 5, 5, 6};
        for (int i = 0; i < values.length; i++) {
            Due.is("number " + values[i], x.number(0, 2, values[i]), lengths[i]);
            Due.is("length(0)", x.length(0), lengths[i]);
            Due.is("number -" + values[i], x.number(0, 8, -values[i]), lengths[i]);
        }
    }

    private static void timesShiftsDigits() {
        ValueTrees x = new ValueTrees();
        x.number(0, 2, -0x12345678L);
        Due.is("times(1, 0, 0)", x.times(1, 0, 0), x.length(0));
        Due.is("the same", x.compare(0, 1), 0);
        Due.is("times(1, 0, 4)", x.times(1, 0, 4), 6);
        Due.is("digit(1, 0)", x.digit(1, 0), 0x6780);
        Due.is("digit(1, 1)", x.digit(1, 1), 0x2345);
        Due.is("digit(1, 2)", x.digit(1, 2), 1);
        Due.is("digit(1, 3)", x.digit(1, 3), 0);
        Due.yes("isBelow(1)", x.isBelow(1));
        Due.is("typeOf(1)", x.typeOf(1), 2);
        Due.is("times(1, 0, 16)", x.times(1, 0, 16), 8);
        Due.is("digit(1, 0)", x.digit(1, 0), 0);
        Due.is("digit(1, 1)", x.digit(1, 1), 0x5678);
        Due.is("digit(1, 2)", x.digit(1, 2), 0x1234);
        Due.is("times(1, 0, 31)", x.times(1, 0, 31), 10);
        Due.is("digit(1, 1)", x.digit(1, 1), 0);
        Due.is("digit(1, 2)", x.digit(1, 2), 0x2b3c);
        Due.is("digit(1, 3)", x.digit(1, 3), 0x91a);
        x.number(2, 8, 7);
        Due.is("times(2, 2, 1) into itself", x.times(2, 2, 1), 2);
        Due.is("digit(2, 0)", x.digit(2, 0), 14);
        Due.is("typeOf(2)", x.typeOf(2), 8);
    }

    private static void timesHasLimits() {
        ValueTrees x = new ValueTrees();
        x.number(0, 2, 1);
        Due.is("times(1, 0, 1000)", x.times(1, 0, 1000), 2 + 143);
        Due.is("times(2, 1, 23)", x.times(2, 1, 23), 2 + 146);
        Due.is("digit(2, 63)", x.digit(2, 63), 32768);
        Due.is("digit(2, 64)", x.digit(2, 64), 0);
        Due.is("times(2, 1, 24)", x.times(2, 1, 24), -1);
        Due.is("times(2, 2, 1)", x.times(2, 2, 1), -1);
        Due.is("times(2, 2, 0)", x.times(2, 2, 0), 148);
        Due.is("times(3, 0, 1001)", x.times(3, 0, 1001), -1);
        Due.is("times(3, 0, -1)", x.times(3, 0, -1), -1);
        Due.is("times(3, 0, max)", x.times(3, 0, Integer.MAX_VALUE), -1);
        Due.is("times(3, 0, min)", x.times(3, 0, Integer.MIN_VALUE), -1);
        Due.is("times(3, 9, 1) of nothing", x.times(3, 9, 1), -1);
        x.bytes(4, 6, 1, 1);
        Due.is("times(3, 4, 1) of bytes", x.times(3, 4, 1), -1);
        Due.is("typeOf(3)", x.typeOf(3), -1);
        x.number(5, 4, 1);
        Due.is("mutez 2^62", x.times(6, 5, 62), 2 + 9);
        Due.is("mutez 2^63", x.times(6, 5, 63), -1);
        Due.is("digit(6, 3)", x.digit(6, 3), 16384);
        x.number(5, 4, 0);
        Due.is("mutez 0 times 2^1000", x.times(6, 5, 1000), 2);
        Due.is("digit(6, 0)", x.digit(6, 0), 0);
        x.number(7, 3, 1);
        Due.is("nat 2^63", x.times(7, 7, 63), 2 + 9);
        Due.is("typeOf(7)", x.typeOf(7), 3);
        x.number(8, 2, Long.MIN_VALUE);
        Due.is("-2^63 times 2^960", x.times(9, 8, 960), 148);
        Due.is("-2^63 times 2^961", x.times(9, 8, 961), -1);
        Due.yes("isBelow(9)", x.isBelow(9));
    }

    private static void bytesTakesTheLowest() {
        ValueTrees x = new ValueTrees();
        long letters = 0x88776655443322f1L;
        for (int t = 5; t <= 6; t++) {
            for (int n = 0; n <= 8; n++) {
                Due.is("bytes(0, " + t + ", .., " + n + ")", x.bytes(0, t, letters, n), 5 + n);
                Due.is("typeOf(0)", x.typeOf(0), t);
                Due.is("many(0)", x.many(0), n);
                Due.is("byteAt(0, 0)", x.byteAt(0, 0), n == 0 ? -1 : 0xf1);
            }
            Due.is("byteAt(0, 7)", x.byteAt(0, 7), 0x88);
        }
        Due.is("bytes(1, 5, 0, -1)", x.bytes(1, 5, 0, -1), -1);
        Due.is("bytes(1, 5, 0, 9)", x.bytes(1, 5, 0, 9), -1);
        int[] others = {-1, 0, 2, 4, 7, 8, 10, Integer.MAX_VALUE};
        for (int t : others) {
            Due.is("bytes(1, " + t + ", 0, 1)", x.bytes(1, t, 0, 1), -1);
        }
        Due.is("typeOf(1)", x.typeOf(1), -1);
    }

    private static void simpleOnes() {
        ValueTrees x = new ValueTrees();
        int[] types = {0, 1, 1};
        int[] whichs = {-1, 0, 1};
        for (int what = 0; what <= 2; what++) {
            Due.is("simple(0, " + what + ")", x.simple(0, what), 2);
            Due.is("typeOf(0)", x.typeOf(0), types[what]);
            Due.is("which(0)", x.which(0), whichs[what]);
        }
        int[] wrong = {Integer.MIN_VALUE, -1, 3, Integer.MAX_VALUE};
        for (int what : wrong) {
            Due.is("simple(0, " + what + ")", x.simple(0, what), -1);
            Due.is("which(0) as it was", x.which(0), 1);
        }
    }

    private static void emptyOnes() {
        ValueTrees x = new ValueTrees();
        for (int word = 10; word <= 18; word++) {
            x.type(word, 2, 9);
        }
        int[] lengths = {2, 5, 5, -1, -1, 5, 5, -1, -1};
        for (int i = 0; i < lengths.length; i++) {
            int t = 10 + i;
            Due.is("empty(0, " + t + ")", x.empty(0, t), lengths[i]);
            if (lengths[i] > 0) {
                Due.is("typeOf(0)", x.typeOf(0), t);
                Due.is("many(0)", x.many(0), t == 10 ? -1 : 0);
                Due.is("which(0)", x.which(0), t == 10 ? 0 : -1);
            }
        }
        int[] wrong = {Integer.MIN_VALUE, -1, 0, 1, 2, 5, 9, 19, Integer.MAX_VALUE};
        for (int t : wrong) {
            Due.is("empty(1, " + t + ")", x.empty(1, t), -1);
        }
        Due.is("none of an option of operation", x.empty(1, x.type(10, 9, 0)), 2);
        Due.is("empty list of address", x.empty(1, x.type(11, 7, 0)), 5);
        Due.is("empty set of address", x.empty(1, x.type(12, 7, 0)), 5);
    }

    private static void wrapOptionsAndAlternatives() {
        ValueTrees x = new ValueTrees();
        int option = x.type(10, 2, 0);
        int or = x.type(14, 2, 5);
        int both = x.type(14, 2, 2);
        x.number(0, 2, 64);
        x.bytes(1, 5, 65, 1);
        Due.is("some", x.wrap(2, option, 0, 0), 5);
        Due.is("typeOf(2)", x.typeOf(2), option);
        Due.is("which(2)", x.which(2), 1);
        Due.is("an option's side 1", x.wrap(3, option, 1, 0), -1);
        Due.is("an option's side -1", x.wrap(3, option, -1, 0), -1);
        Due.is("some of another type", x.wrap(3, option, 0, 1), -1);
        Due.is("some of nothing", x.wrap(3, option, 0, 9), -1);
        Due.is("left", x.wrap(4, or, 0, 0), 5);
        Due.is("which(4)", x.which(4), 0);
        Due.is("right", x.wrap(5, or, 1, 1), 8);
        Due.is("which(5)", x.which(5), 1);
        Due.is("left of the right's type", x.wrap(3, or, 0, 1), -1);
        Due.is("right of the left's type", x.wrap(3, or, 1, 0), -1);
        Due.is("side 2", x.wrap(3, both, 2, 0), -1);
        Due.is("side -1", x.wrap(3, both, -1, 0), -1);
        Due.is("both: left", x.wrap(6, both, 0, 0), 5);
        Due.is("both: right", x.wrap(7, both, 1, 0), 5);
        Due.is("both: left is before right", x.compare(6, 7), -1);
        int[] wrong = {-1, 0, 2, 9, 99, x.type(11, 2, 0), x.type(12, 2, 0), x.type(15, 2, 2), x.type(18, 2, 2)};
        for (int t : wrong) {
            Due.is("wrap(3, " + t + ", 0, 0)", x.wrap(3, t, 0, 0), -1);
            Due.is("wrap(3, " + t + ", 1, 0)", x.wrap(3, t, 1, 0), -1);
        }
        Due.is("typeOf(3)", x.typeOf(3), -1);
        Due.is("wrap over its own", x.wrap(0, option, 0, 0), 5);
        Due.is("typeOf(0)", x.typeOf(0), option);
    }

    private static void pairs() {
        ValueTrees x = new ValueTrees();
        x.number(0, 2, 64);
        x.bytes(1, 5, 0, 3);
        Due.is("pair(2, 0, 1)", x.pair(2, 0, 1), 2 + 3 + 8);
        Due.is("typeOf(2)", x.typeOf(2), 10);
        Due.is("ofType(10, 0)", x.ofType(10, 0), 18);
        Due.is("ofType(10, 1)", x.ofType(10, 1), 2);
        Due.is("ofType(10, 2)", x.ofType(10, 2), 5);
        Due.is("pair(3, 0, 1)", x.pair(3, 0, 1), 13);
        Due.is("typeOf(3)", x.typeOf(3), 10);
        Due.is("pair(4, 1, 0)", x.pair(4, 1, 0), 13);
        Due.is("typeOf(4)", x.typeOf(4), 11);
        Due.is("type(18, 5, 2)", x.type(18, 5, 2), 11);
        Due.is("pair(0, 0, 0) over its own", x.pair(0, 0, 0), 8);
        Due.is("typeOf(0)", x.typeOf(0), 12);
        Due.is("pair with nothing first", x.pair(5, 9, 0), -1);
        Due.is("pair with nothing second", x.pair(5, 0, 9), -1);
        Due.is("no register as target leaves no type", x.pair(16, 3, 4), -1);
        Due.is("ofType(13, 0)", x.ofType(13, 0), -1);
    }

    private static void pairOfTooManyParts() {
        ValueTrees x = new ValueTrees();
        int t = 2;
        for (int parts = 2; parts <= 198; parts++) {
            t = x.type(10, t, 0);
        }
        x.empty(0, t);
        x.empty(1, x.type(10, t, 0));
        x.number(2, 2, 0);
        Due.is("pair of 198 and 1", x.pair(3, 0, 2), 6);
        Due.is("pair of 199 and 1", x.pair(3, 1, 2), -1);
        Due.is("pair of 1 and 199", x.pair(3, 2, 1), -1);
        Due.is("length(3) as it was", x.length(3), 6);
    }

    /** Register r gets a list of unit whose length is an odd one, 5 or more. */
    private static void makeLong(ValueTrees x, int r, int length) {
        x.empty(r, x.type(11, 0, 0));
        x.simple(15, 0);
        for (int have = 5; have < length; have += 2) {
            x.cons(r, 15, r);
        }
        Due.is("makeLong", x.length(r), length);
    }

    private static void fullPairLeavesNoType() {
        ValueTrees x = new ValueTrees();
        makeLong(x, 0, 155);
        x.number(1, 2, 64);
        x.number(2, 3, 8192);
        Due.is("pair of 155 and 3", x.pair(3, 0, 1), 160);
        Due.is("pair of 155 and 4", x.pair(4, 0, 2), -2);
        Due.is("typeOf(4)", x.typeOf(4), -1);
        Due.is("no type was made", x.ofType(12, 0), -1);
        Due.is("the next type", x.type(11, 2, 0), 12);
    }

    private static void consInFront() {
        ValueTrees x = new ValueTrees();
        int list = x.type(11, 2, 0);
        x.empty(0, list);
        x.number(1, 2, 64);
        x.number(2, 2, -1);
        x.number(3, 3, 1);
        Due.is("cons(4, 1, 0)", x.cons(4, 1, 0), 8);
        Due.is("cons(5, 2, 4)", x.cons(5, 2, 4), 10);
        Due.is("typeOf(5)", x.typeOf(5), list);
        Due.is("many(5)", x.many(5), 2);
        Due.is("many(4)", x.many(4), 1);
        Due.is("many(0)", x.many(0), 0);
        x.part(6, 5, 0);
        Due.is("the first is the last put", x.compare(6, 2), 0);
        Due.is("another type", x.cons(7, 3, 4), -1);
        Due.is("nothing in front", x.cons(7, 9, 4), -1);
        Due.is("in front of nothing", x.cons(7, 1, 9), -1);
        Due.is("in front of a number", x.cons(7, 1, 1), -1);
        x.empty(8, x.type(12, 2, 0));
        Due.is("in front of a set", x.cons(7, 1, 8), -1);
        x.empty(8, x.type(10, 2, 0));
        Due.is("in front of an option", x.cons(7, 1, 8), -1);
        Due.is("typeOf(7)", x.typeOf(7), -1);
    }

    private static void putIntoSets() {
        ValueTrees x = new ValueTrees();
        int set = x.type(12, 2, 0);
        x.empty(0, set);
        long[] values = {5, -3, 100, 0, -100};
        int[] lengths = {7, 9, 12, 14, 17};
        int[] unlooked = {-1, 16, 9, Integer.MAX_VALUE, 0};
        for (int i = 0; i < values.length; i++) {
            x.number(1, 2, values[i]);
            Due.is("put " + values[i], x.put(0, 0, 1, unlooked[i]), lengths[i]);
            Due.is("put " + values[i] + " again", x.put(0, 0, 1, 1), lengths[i]);
            Due.is("many(0)", x.many(0), i + 1);
        }
        Due.is("typeOf(0)", x.typeOf(0), set);
        x.number(2, 3, 1);
        Due.is("a key of another type", x.put(3, 0, 2, 2), -1);
        Due.is("no key", x.put(3, 0, 9, 2), -1);
        Due.is("no tree", x.put(3, 9, 1, 1), -1);
        Due.is("a number as tree", x.put(3, 1, 1, 1), -1);
        x.empty(4, x.type(11, 2, 0));
        Due.is("a list as tree", x.put(3, 4, 1, 1), -1);
        Due.is("typeOf(3)", x.typeOf(3), -1);
    }

    private static void putIntoMaps() {
        for (int word = 15; word <= 16; word++) {
            ValueTrees x = new ValueTrees();
            int map = x.type(word, 5, 2);
            x.empty(0, map);
            x.bytes(1, 5, 66, 1);
            x.bytes(2, 5, 65, 1);
            x.number(3, 2, 1);
            x.number(4, 2, 64);
            x.number(5, 3, 64);
            Due.is("put b", x.put(0, 0, 1, 3), 5 + 10);
            Due.is("put a", x.put(0, 0, 2, 4), 15 + 11);
            Due.is("many(0)", x.many(0), 2);
            Due.is("put b again, longer", x.put(6, 0, 1, 4), 27);
            Due.is("many(6)", x.many(6), 2);
            Due.is("put a again, shorter", x.put(7, 0, 2, 3), 25);
            x.get(8, 6, 1);
            Due.is("the new value", x.compare(8, 4), 0);
            x.get(8, 0, 1);
            Due.is("the old one in the old map", x.compare(8, 3), 0);
            Due.is("typeOf(7)", x.typeOf(7), map);
            Due.is("a value of another type", x.put(9, 0, 1, 5), -1);
            Due.is("no value", x.put(9, 0, 1, 10), -1);
            Due.is("no register as value", x.put(9, 0, 1, -1), -1);
            Due.is("a key of another type", x.put(9, 0, 3, 3), -1);
            Due.is("typeOf(9)", x.typeOf(9), -1);
        }
    }

    private static void removeKeys() {
        ValueTrees x = new ValueTrees();
        x.empty(0, x.type(15, 2, 5));
        x.bytes(1, 5, 0, 4);
        for (int k = 0; k < 5; k++) {
            x.number(2, 2, 63 + k);
            x.put(0, 0, 2, 1);
        }
        Due.is("length(0)", x.length(0), 5 + 13 + 4 * 14);
        x.number(2, 2, 65);
        Due.is("remove the middle", x.remove(3, 0, 2), 60);
        Due.is("many(3)", x.many(3), 4);
        Due.is("has(3, 2)", x.has(3, 2), 0);
        Due.is("has(0, 2)", x.has(0, 2), 1);
        Due.is("remove it again", x.remove(3, 3, 2), 60);
        x.number(2, 2, 63);
        Due.is("remove the first", x.remove(3, 3, 2), 47);
        x.number(2, 2, 67);
        Due.is("remove the last", x.remove(3, 3, 2), 33);
        Due.is("many(3)", x.many(3), 2);
        x.number(2, 2, 1000);
        Due.is("one that is not there, elsewhere", x.remove(4, 3, 2), 33);
        Due.is("many(4)", x.many(4), 2);
        x.number(5, 3, 64);
        Due.is("a key of another type", x.remove(6, 3, 5), -1);
        Due.is("no key", x.remove(6, 3, 9), -1);
        Due.is("no tree", x.remove(6, 9, 2), -1);
        Due.is("a number as tree", x.remove(6, 2, 2), -1);
        Due.is("typeOf(6)", x.typeOf(6), -1);
        x.empty(7, x.type(12, 2, 0));
        Due.is("from an empty set", x.remove(8, 7, 2), 5);
        Due.is("typeOf(8)", x.typeOf(8), x.typeOf(7));
        x.put(7, 7, 2, 0);
        Due.is("the only one of a set", x.remove(8, 7, 2), 5);
        Due.is("many(8)", x.many(8), 0);
    }

    private static void fullChangesNothing() {
        ValueTrees x = new ValueTrees();
        makeLong(x, 0, 159);
        x.simple(1, 0);
        Due.is("cons beyond 160", x.cons(0, 1, 0), -2);
        Due.is("length(0)", x.length(0), 159);
        Due.is("many(0)", x.many(0), 77);
        int some = x.type(10, x.typeOf(0), 0);
        Due.is("wrap of 159", x.wrap(0, some, 0, 0), -2);
        Due.is("typeOf(0)", x.ofType(x.typeOf(0), 0), 11);
        x.part(2, 0, 1);
        Due.is("wrap of 157", x.wrap(3, some, 0, 2), 159);
        Due.is("pair of 157 and 2", x.pair(4, 2, 1), -2);
        int map = x.type(15, 0, x.typeOf(0));
        x.empty(5, map);
        makeLong(x, 6, 151);
        Due.is("put of 5 + 2 + 2 + 151", x.put(5, 5, 1, 6), 160);
        Due.is("put of 157 in its place", x.put(5, 5, 1, 2), -2);
        Due.is("length(5)", x.length(5), 160);
        Due.is("put of 151 in its place", x.put(5, 5, 1, 6), 160);
        int big = x.type(12, 2, 0);
        x.empty(7, big);
        x.number(8, 2, 1);
        x.times(8, 8, 1000);
        Due.is("put 145 into a set", x.put(7, 7, 8, 0), 150);
        x.number(9, 2, 1);
        x.times(9, 9, 57);
        Due.is("length(9)", x.length(9), 10);
        Due.is("put 10 more", x.put(10, 7, 9, 0), 160);
        x.times(9, 9, 6);
        Due.is("put 11 more", x.put(11, 7, 9, 0), -2);
        Due.is("typeOf(11)", x.typeOf(11), -1);
        Due.is("many(7)", x.many(7), 1);
    }

    private static void noneComesAheadOfFull() {
        ValueTrees x = new ValueTrees();
        makeLong(x, 0, 159);
        int list = x.typeOf(0);
        x.simple(1, 0);
        Due.is("cons into no register", x.cons(16, 1, 0), -1);
        Due.is("wrap into no register", x.wrap(-1, x.type(10, list, 0), 0, 0), -1);
        Due.is("pair into no register", x.pair(16, 0, 0), -1);
        x.empty(2, x.type(15, 0, list));
        Due.is("put into no register", x.put(16, 2, 1, 0), -1);
        Due.is("put into a register", x.put(3, 2, 1, 0), -2);
        ValueTrees y = new ValueTrees();
        int t = 0;
        for (int parts = 2; parts <= 199; parts++) {
            t = y.type(10, t, 0);
        }
        makeLong(y, 0, 159);
        y.empty(1, t);
        Due.is("pair of too many parts that is too long", y.pair(2, 0, 1), -1);
    }

    private static void noRegisterIsNone() {
        ValueTrees x = new ValueTrees();
        int option = x.type(10, 2, 0);
        int list = x.type(11, 2, 0);
        int set = x.type(12, 2, 0);
        x.number(0, 2, 1);
        x.empty(1, list);
        x.empty(2, set);
        for (int r : Make.NO_REGISTERS) {
            Due.is("number", x.number(r, 2, 1), -1);
            Due.is("times", x.times(r, 0, 1), -1);
            Due.is("times from", x.times(3, r, 1), -1);
            Due.is("bytes", x.bytes(r, 5, 1, 1), -1);
            Due.is("simple", x.simple(r, 0), -1);
            Due.is("empty", x.empty(r, option), -1);
            Due.is("wrap", x.wrap(r, option, 0, 0), -1);
            Due.is("wrap from", x.wrap(3, option, 0, r), -1);
            Due.is("pair", x.pair(r, 0, 0), -1);
            Due.is("pair a", x.pair(3, r, 0), -1);
            Due.is("pair b", x.pair(3, 0, r), -1);
            Due.is("cons", x.cons(r, 0, 1), -1);
            Due.is("cons from", x.cons(3, r, 1), -1);
            Due.is("cons list", x.cons(3, 0, r), -1);
            Due.is("put", x.put(r, 2, 0, 0), -1);
            Due.is("put tree", x.put(3, r, 0, 0), -1);
            Due.is("put key", x.put(3, 2, r, 0), -1);
            Due.is("remove", x.remove(r, 2, 0), -1);
            Due.is("remove tree", x.remove(3, r, 0), -1);
            Due.is("remove key", x.remove(3, 2, r), -1);
        }
        for (int r = 3; r < 16; r++) {
            Due.is("typeOf(" + r + ")", x.typeOf(r), -1);
        }
        for (int r = 0; r < 16; r++) {
            Due.is("simple(" + r + ", 0)", x.simple(r, 0), 2);
        }
    }

    private static void oldValuesStay() {
        ValueTrees x = new ValueTrees();
        x.empty(0, x.type(12, 2, 0));
        x.number(1, 2, 7);
        x.put(2, 0, 1, 0);
        x.pair(3, 2, 1);
        x.number(1, 2, 8);
        x.put(2, 2, 1, 0);
        x.part(4, 3, 0);
        Due.is("the set in the pair", x.many(4), 1);
        Due.is("it lacks the new key", x.has(4, 1), 0);
        Due.is("the changed set", x.many(2), 2);
        Due.is("the first set", x.many(0), 0);
        x.part(5, 3, 1);
        Due.is("the number in the pair", x.digit(5, 0), 7);
        x.clear(2);
        x.clear(3);
        Due.is("a part outlives its whole", x.length(4), 7);
    }
}
