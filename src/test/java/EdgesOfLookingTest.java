/** Promises 19 to 27, the calls that look: a test for each sentence that names an edge. */
public final class EdgesOfLookingTest {
    private static final int[] FAR = {Integer.MIN_VALUE, Integer.MIN_VALUE + 1, -256, -1, 256, 65537, Integer.MAX_VALUE};
    private static final int[] TREES = {12, 15, 16};

    public static void main(String[] args) {
        typeOfNothing();
        lengthOfNothing();
        whichIsZero();
        whichIsOne();
        whichOfOthers();
        manyInAList();
        manyInTrees();
        manyInARow();
        manyOfOthers();
        digitsLowestFirst();
        digitsBehindTheEnd();
        digitOfNoNumber();
        digitBelowZero();
        isBelowZero();
        isBelowOfOthers();
        bytesFromZero();
        byteOfNoneSuch();
        byteOfOthers();
        hasAKey();
        hasItNot();
        hasWhenOneIsNone();
        hasOfAnotherType();
        hasTheNoneOfAnOption();
        compareBeforeSameBehind();
        compareWithNothing();
        compareOfTwoTypes();
        compareOfNoComparableType();
        compareTheDeepest();
        looksChangeNothing();
        noSuchRegisters();
        Due.end();
    }

    private static void typeOfNothing() {
        Due.sentence("promise 19: The type of what a register has; NONE for nothing");
        ValueTrees x = Make.oneOfEach();
        int[] types = {0, 1, 1, 2, 6, 10, 10, 11, 11, 16, 12, 13, 14, 15, -1, -1};
        for (int r = 0; r < 16; r++) {
            Due.is("typeOf(" + r + ")", x.typeOf(r), types[r]);
            x.clear(r);
            Due.is("typeOf(" + r + "), cleared", x.typeOf(r), -1);
        }
    }

    private static void lengthOfNothing() {
        Due.sentence("promise 20: The length of what a register has; NONE for nothing");
        ValueTrees x = Make.oneOfEach();
        int[] lengths = {2, 2, 2, 2, 7, 2, 4, 4, 4, 11, 7, 7, 11, 11, -1, -1};
        for (int r = 0; r < 16; r++) {
            Due.is("length(" + r + ")", x.length(r), lengths[r]);
            x.clear(r);
            Due.is("length(" + r + "), cleared", x.length(r), -1);
        }
        Make.list(x, 0, 160);
        Due.is("the longest", x.length(0), 160);
    }

    private static void whichIsZero() {
        Due.sentence("promise 21: 0 for false, none, left");
        ValueTrees x = Make.oneOfEach();
        Due.is("false", x.which(1), 0);
        Due.is("none", x.which(5), 0);
        Due.is("left", x.which(7), 0);
    }

    private static void whichIsOne() {
        Due.sentence("promise 21: 1 for true, some, right");
        ValueTrees x = Make.oneOfEach();
        Due.is("true", x.which(2), 1);
        Due.is("some", x.which(6), 1);
        Due.is("right", x.which(8), 1);
        int outer = x.type(10, x.typeOf(5), 0);
        x.wrap(14, outer, 0, 5);
        Due.is("some of none", x.which(14), 1);
    }

    private static void whichOfOthers() {
        Due.sentence("promise 21: NONE for others and nothing");
        ValueTrees x = Make.oneOfEach();
        int[] others = {0, 3, 4, 9, 10, 11, 12, 13, 14, 15};
        for (int r : others) {
            Due.is("which(" + r + ")", x.which(r), -1);
        }
        x.number(3, 2, 0);
        Due.is("which of the number 0", x.which(3), -1);
        x.number(3, 2, 1);
        Due.is("which of the number 1", x.which(3), -1);
    }

    private static void manyInAList() {
        Due.sentence("promise 22: How many are in a list");
        ValueTrees x = new ValueTrees();
        x.empty(0, x.type(11, 0, 0));
        x.simple(1, 0);
        Due.is("in an empty one", x.many(0), 0);
        for (int many = 1; many <= 77; many++) {
            x.cons(0, 1, 0);
            Due.is("in one of " + many, x.many(0), many);
        }
        x.cons(0, 1, 0);
        Due.is("in a full one", x.many(0), 77);
    }

    private static void manyInTrees() {
        Due.sentence("promise 22: How many are in a set, map or big_map");
        for (int word : TREES) {
            ValueTrees x = new ValueTrees();
            x.empty(0, x.type(word, 2, 0));
            x.simple(1, 0);
            Due.is("in an empty one", x.many(0), 0);
            int most = word == 12 ? 77 : 25;
            for (int many = 1; many <= most; many++) {
                // These are numbers below 64 in size, none of them twice.
                x.number(2, 2, many * 37 % 101 - 50);
                x.put(0, 0, 2, 1);
                Due.is("in one of " + many, x.many(0), many);
                x.put(0, 0, 2, 1);
            }
            Due.is("with the last one twice", x.many(0), most);
            x.number(2, 2, 63);
            Due.is("one more", x.put(0, 0, 2, 1), -2);
            Due.is("in a full one", x.many(0), most);
        }
    }

    private static void manyInARow() {
        Due.sentence("promise 22: how many bytes in a row");
        for (int type = 5; type <= 6; type++) {
            ValueTrees x = new ValueTrees();
            for (int n = 0; n <= 8; n++) {
                x.bytes(0, type, 0, n);
                Due.is("in a row of " + n, x.many(0), n);
            }
        }
    }

    private static void manyOfOthers() {
        Due.sentence("promise 22: NONE for others and nothing");
        ValueTrees x = Make.oneOfEach();
        int[] others = {0, 1, 2, 3, 5, 6, 7, 8, 9, 14, 15};
        for (int r : others) {
            Due.is("many(" + r + ")", x.many(r), -1);
        }
    }

    private static void digitsLowestFirst() {
        Due.sentence("promise 23: Digit i (from 0, the lowest first) of a number's size to the base 65536");
        long[] values = {0x1234_5678_9abc_def0L, -0x1234_5678_9abc_def0L, Long.MAX_VALUE, Long.MIN_VALUE, 65535, 65536, -65536, -1};
        for (long v : values) {
            ValueTrees x = new ValueTrees();
            x.number(0, 2, v);
            // The size of the lowest long is its own bits, read without a sign.
            long size = v < 0 ? -v : v;
            for (int i = 0; i < 4; i++) {
                Due.is("digit " + i + " of " + v, x.digit(0, i), size >>> 16 * i & 65535);
            }
        }
        ValueTrees y = new ValueTrees();
        y.number(0, 2, -1);
        y.times(0, 0, 1000);
        y.times(0, 0, 23);
        for (int i = 0; i < 63; i++) {
            Due.is("digit " + i + " of -2^1023", y.digit(0, i), 0);
        }
        Due.is("digit 63 of -2^1023", y.digit(0, 63), 32768);
    }

    private static void digitsBehindTheEnd() {
        Due.sentence("promise 23: 0 behind its end");
        long[] values = {0, 1, 65535, 65536, -1, Long.MAX_VALUE, Long.MIN_VALUE};
        int[] ends = {0, 1, 1, 2, 1, 4, 4};
        for (int k = 0; k < values.length; k++) {
            ValueTrees x = new ValueTrees();
            x.number(0, 2, values[k]);
            for (int i = ends[k]; i <= 70; i++) {
                Due.is("digit " + i + " of " + values[k], x.digit(0, i), 0);
            }
            for (int i : FAR) {
                if (i >= 0) {
                    Due.is("digit " + i + " of " + values[k], x.digit(0, i), 0);
                }
            }
        }
        ValueTrees y = new ValueTrees();
        y.number(0, 2, 1);
        y.times(0, 0, 1000);
        y.times(0, 0, 23);
        Due.is("digit 64 of 2^1023", y.digit(0, 64), 0);
        Due.is("digit 65 of 2^1023", y.digit(0, 65), 0);
        Due.is("digit max of 2^1023", y.digit(0, Integer.MAX_VALUE), 0);
    }

    private static void digitOfNoNumber() {
        Due.sentence("promise 23: -1 for what is no number");
        for (int r = 0; r < 16; r++) {
            ValueTrees x = Make.oneOfEach();
            for (int i = 0; i <= 2 && r != 3; i++) {
                Due.is("digit(" + r + ", " + i + ")", x.digit(r, i), -1);
                Due.is("digit(" + r + ", max)", x.digit(r, Integer.MAX_VALUE), -1);
            }
        }
        Due.is("digit(3, 0)", Make.oneOfEach().digit(3, 0), 7);
    }

    private static void digitBelowZero() {
        Due.sentence("promise 23: -1 for i below 0");
        long[] values = {0, 1, -1, Long.MAX_VALUE};
        for (long v : values) {
            ValueTrees x = new ValueTrees();
            x.number(0, 2, v);
            Due.is("digit(0, -1)", x.digit(0, -1), -1);
            Due.is("digit(0, -2)", x.digit(0, -2), -1);
            Due.is("digit(0, min)", x.digit(0, Integer.MIN_VALUE), -1);
            Due.yes("digit(0, 0)", x.digit(0, 0) >= 0);
        }
    }

    private static void isBelowZero() {
        Due.sentence("promise 24: Whether a register has a number below 0");
        long[] values = {Long.MIN_VALUE, -1, 0, 1, Long.MAX_VALUE};
        for (int type = 2; type <= 8; type += 6) {
            ValueTrees x = new ValueTrees();
            for (long v : values) {
                x.number(0, type, v);
                Due.is("isBelow of " + v, x.isBelow(0) ? 1 : 0, v < 0 ? 1 : 0);
                x.times(0, 0, 900);
                Due.is("isBelow of " + v + " times 2^900", x.isBelow(0) ? 1 : 0, v < 0 ? 1 : 0);
            }
        }
        ValueTrees y = new ValueTrees();
        y.number(0, 3, 0);
        y.number(1, 4, 0);
        Due.no("isBelow of nat 0", y.isBelow(0));
        Due.no("isBelow of mutez 0", y.isBelow(1));
    }

    private static void isBelowOfOthers() {
        Due.sentence("promise 24: false for others and nothing");
        ValueTrees x = Make.oneOfEach();
        for (int r = 0; r < 16; r++) {
            Due.is("isBelow(" + r + ")", x.isBelow(r) ? 1 : 0, r == 3 ? 1 : 0);
        }
    }

    private static void bytesFromZero() {
        Due.sentence("promise 25: Byte i (from 0) of a row");
        for (int type = 5; type <= 6; type++) {
            ValueTrees x = new ValueTrees();
            x.bytes(0, type, 0xff80_7f00_0102_fe61L, 8);
            int[] want = {0x61, 0xfe, 2, 1, 0, 0x7f, 0x80, 0xff};
            for (int i = 0; i < 8; i++) {
                Due.is("byteAt(0, " + i + ")", x.byteAt(0, i), want[i]);
            }
        }
    }

    private static void byteOfNoneSuch() {
        Due.sentence("promise 25: NONE when there is none such");
        for (int n = 0; n <= 8; n++) {
            ValueTrees x = new ValueTrees();
            x.bytes(0, 6, -1, n);
            for (int i = n; i <= 70; i++) {
                Due.is("byteAt(0, " + i + ") of " + n, x.byteAt(0, i), -1);
            }
            Due.is("byteAt(0, -1) of " + n, x.byteAt(0, -1), -1);
            Due.is("byteAt(0, -8) of " + n, x.byteAt(0, -8), -1);
            for (int i : FAR) {
                Due.is("byteAt(0, " + i + ") of " + n, x.byteAt(0, i), -1);
            }
        }
    }

    private static void byteOfOthers() {
        Due.sentence("promise 25: NONE when there is none such: others and nothing have none");
        ValueTrees x = Make.oneOfEach();
        for (int r = 0; r < 16; r++) {
            Due.is("byteAt(" + r + ", 0)", x.byteAt(r, 0), r == 4 ? 0x41 : -1);
            Due.is("byteAt(" + r + ", 1)", x.byteAt(r, 1), r == 4 ? 0x42 : -1);
        }
    }

    /** Register 0 gets a set, map or big_map with the keys -20, 0 and 20. */
    private static ValueTrees threeKeys(int word) {
        ValueTrees x = new ValueTrees();
        x.empty(0, x.type(word, 2, 2));
        int[] keys = {0, 20, -20};
        for (int key : keys) {
            x.number(1, 2, key);
            x.put(0, 0, 1, 1);
        }
        return x;
    }

    private static void hasAKey() {
        Due.sentence("promise 26: 1 if a key is in a set, map or big_map");
        for (int word : TREES) {
            ValueTrees x = threeKeys(word);
            for (int key = -20; key <= 20; key += 20) {
                x.number(1, 2, key);
                Due.is("has it " + key, x.has(0, 1), 1);
            }
        }
    }

    private static void hasItNot() {
        Due.sentence("promise 26: else 0");
        long[] others = {-21, -19, -1, 1, 19, 21, Long.MIN_VALUE, Long.MAX_VALUE};
        for (int word : TREES) {
            ValueTrees x = threeKeys(word);
            for (long key : others) {
                x.number(1, 2, key);
                Due.is("has it " + key, x.has(0, 1), 0);
            }
            x.empty(0, x.typeOf(0));
            x.number(1, 2, 0);
            Due.is("has an empty one", x.has(0, 1), 0);
        }
    }

    private static void hasWhenOneIsNone() {
        Due.sentence("promise 26: NONE when one of them is none");
        ValueTrees x = Make.oneOfEach();
        for (int tree = 11; tree <= 13; tree++) {
            Due.is("no key in " + tree, x.has(tree, 14), -1);
        }
        Due.is("no tree", x.has(14, 3), -1);
        Due.is("neither", x.has(14, 15), -1);
        for (int r = 0; r <= 10; r++) {
            Due.is("has(" + r + ", 3)", x.has(r, 3), -1);
        }
    }

    private static void hasOfAnotherType() {
        Due.sentence("promise 26: NONE when one is of another type");
        ValueTrees x = Make.oneOfEach();
        for (int tree = 11; tree <= 13; tree++) {
            for (int key = 0; key < 14; key++) {
                Due.is("has(" + tree + ", " + key + ")", x.has(tree, key), key == 3 ? 1 : -1);
            }
            for (int type = 3; type <= 8; type += type == 4 ? 4 : 1) {
                x.number(14, type, 7);
                Due.is("has(" + tree + ", a number of type " + type + ")", x.has(tree, 14), -1);
            }
        }
        x.empty(15, x.type(12, 3, 0));
        Due.is("an empty set of nat and an int", x.has(15, 3), -1);
    }

    private static void hasTheNoneOfAnOption() {
        Due.sentence("promise 26: 1 if a key is in: the none of an option is a key like others");
        for (int word : TREES) {
            ValueTrees x = new ValueTrees();
            int option = x.type(10, 2, 0);
            x.empty(0, x.type(word, option, option));
            x.empty(1, option);
            Due.is("before", x.has(0, 1), 0);
            x.put(0, 0, 1, 1);
            Due.is("behind", x.has(0, 1), 1);
        }
    }

    private static void compareBeforeSameBehind() {
        Due.sentence("promise 27: -1, 0, 1 when the first one comes before, is the same, comes behind");
        ValueTrees x = new ValueTrees();
        x.number(0, 2, Long.MIN_VALUE);
        x.number(1, 2, Long.MAX_VALUE);
        x.number(2, 2, Long.MAX_VALUE);
        Due.is("before", x.compare(0, 1), -1);
        Due.is("the same", x.compare(1, 2), 0);
        Due.is("the very same", x.compare(1, 1), 0);
        Due.is("behind", x.compare(1, 0), 1);
        x.bytes(3, 6, 0, 0);
        x.bytes(4, 6, -1, 8);
        Due.is("rows, before", x.compare(3, 4), -1);
        Due.is("rows, behind", x.compare(4, 3), 1);
        x.simple(5, 0);
        x.simple(6, 0);
        Due.is("unit and unit", x.compare(5, 6), 0);
    }

    private static void compareWithNothing() {
        Due.sentence("promise 27: 2 when they have no values");
        ValueTrees x = Make.oneOfEach();
        for (int r = 0; r < 16; r++) {
            Due.is("compare(" + r + ", 14)", x.compare(r, 14), 2);
            Due.is("compare(14, " + r + ")", x.compare(14, r), 2);
        }
    }

    private static void compareOfTwoTypes() {
        Due.sentence("promise 27: 2 when they have no values of one type");
        ValueTrees x = Make.oneOfEach();
        for (int a = 0; a <= 9; a++) {
            for (int b = 0; b <= 9; b++) {
                boolean one = x.typeOf(a) == x.typeOf(b);
                Due.is("is compare(" + a + ", " + b + ") 2", x.compare(a, b) == 2 ? 1 : 0, one ? 0 : 1);
            }
        }
        ValueTrees y = new ValueTrees();
        int[] types = {2, 3, 4, 8};
        for (int i = 0; i < 4; i++) {
            y.number(i, types[i], 5);
            y.empty(4 + i, y.type(10, types[i], 0));
        }
        y.bytes(8, 5, 1, 1);
        y.bytes(9, 6, 1, 1);
        for (int a = 0; a <= 9; a++) {
            for (int b = 0; b <= 9; b++) {
                Due.is("compare(" + a + ", " + b + ")", y.compare(a, b), a == b ? 0 : 2);
            }
        }
    }

    private static void compareOfNoComparableType() {
        Due.sentence("promise 27: 2 when they have no values of one comparable type");
        ValueTrees x = Make.oneOfEach();
        for (int r = 10; r <= 13; r++) {
            Due.is("compare(" + r + ", " + r + ")", x.compare(r, r), 2);
        }
        x.pair(14, 3, 10);
        Due.is("pairs with a list", x.compare(14, 14), 2);
        x.pair(14, 11, 3);
        Due.is("pairs with a set", x.compare(14, 14), 2);
        x.empty(14, x.type(10, x.typeOf(12), 0));
        Due.is("nones of an option of a map", x.compare(14, 14), 2);
        x.empty(14, x.type(10, 9, 0));
        Due.is("nones of an option of operation", x.compare(14, 14), 2);
        x.wrap(14, x.type(14, 2, x.typeOf(13)), 0, 3);
        Due.is("lefts with a big_map right", x.compare(14, 14), 2);
        x.empty(14, x.type(10, 7, 0));
        Due.is("nones of an option of address", x.compare(14, 14), 0);
    }

    private static void compareTheDeepest() {
        Due.sentence("promise 27: values as deep as a length of 160 lets them be");
        ValueTrees x = new ValueTrees();
        x.simple(0, 0);
        x.simple(1, 1);
        x.simple(2, 2);
        x.simple(3, 1);
        x.simple(4, 2);
        for (int i = 0; i < 39; i++) {
            x.pair(1, 1, 0);
            x.pair(2, 2, 0);
            x.pair(3, 0, 3);
            x.pair(4, 0, 4);
        }
        Due.is("length(1)", x.length(1), 158);
        Due.is("length(4)", x.length(4), 158);
        Due.is("to the first, before", x.compare(1, 2), -1);
        Due.is("to the first, behind", x.compare(2, 1), 1);
        Due.is("to the second, before", x.compare(3, 4), -1);
        Due.is("to the second, behind", x.compare(4, 3), 1);
        Due.is("the same", x.compare(4, 4), 0);
        ValueTrees y = new ValueTrees();
        y.simple(1, 1);
        y.simple(2, 2);
        int type = 1;
        for (int i = 0; i < 79; i++) {
            type = i % 2 == 0 ? y.type(10, type, 0) : y.type(14, 0, type);
            y.wrap(1, type, i % 2, 1);
            y.wrap(2, type, i % 2, 2);
        }
        Due.is("length(1)", y.length(1), 160);
        Due.is("in some and right, before", y.compare(1, 2), -1);
        Due.is("in some and right, behind", y.compare(2, 1), 1);
        Due.is("in some and right, the same", y.compare(2, 2), 0);
    }

    private static void looksChangeNothing() {
        Due.sentence("promises 19 to 27: looking changes nothing");
        ValueTrees x = Make.oneOfEach();
        for (int r = 0; r < 16; r++) {
            x.typeOf(r);
            x.length(r);
            x.which(r);
            x.many(r);
            x.digit(r, 0);
            x.isBelow(r);
            x.byteAt(r, 0);
            x.has(r, 3);
            x.compare(r, r);
        }
        Due.same("what is there", Refused.looks(x), Refused.looks(Make.oneOfEach()));
    }

    private static void noSuchRegisters() {
        Due.sentence("promises 19 to 27: a register: one that is no register has nothing");
        ValueTrees x = Make.oneOfEach();
        for (int r : Make.NO_REGISTERS) {
            Due.is("typeOf(" + r + ")", x.typeOf(r), -1);
            Due.is("length(" + r + ")", x.length(r), -1);
            Due.is("which(" + r + ")", x.which(r), -1);
            Due.is("many(" + r + ")", x.many(r), -1);
            Due.is("digit(" + r + ", 0)", x.digit(r, 0), -1);
            Due.no("isBelow(" + r + ")", x.isBelow(r));
            Due.is("byteAt(" + r + ", 0)", x.byteAt(r, 0), -1);
            Due.is("has(" + r + ", 3)", x.has(r, 3), -1);
            Due.is("has(11, " + r + ")", x.has(11, r), -1);
            Due.is("compare(" + r + ", 3)", x.compare(r, 3), 2);
            Due.is("compare(3, " + r + ")", x.compare(3, r), 2);
            Due.is("compare(" + r + ", " + r + ")", x.compare(r, r), 2);
        }
    }
}
