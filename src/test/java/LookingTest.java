/** Promises 19 to 27: typeOf, length, which, many, digit, isBelow, byteAt, has, compare. */
public final class LookingTest {
    private static final int KINDS = 15;

    public static void main(String[] args) {
        eachKindLookedAt();
        noRegisters();
        digits();
        bytesOfRows();
        hasKeys();
        hasNone();
        compareNumbers();
        compareRows();
        compareChoices();
        comparePairs();
        compareOthers();
        compareDeepOptions();
        compareDeepPairs();
        Due.end();
    }

    private static void eachKindLookedAt() {
        ValueTrees x = Make.oneOfEach();
        int[] types = {0, 1, 1, 2, 6, 10, 10, 11, 11, 16, 12, 13, 14, 15, -1};
        int[] lengths = {2, 2, 2, 2, 7, 2, 4, 4, 4, 11, 7, 7, 11, 11, -1};
        int[] whichs = {-1, 0, 1, -1, -1, 0, 1, 0, 1, -1, -1, -1, -1, -1, -1};
        int[] manys = {-1, -1, -1, -1, 2, -1, -1, -1, -1, -1, 1, 1, 1, 1, -1};
        for (int r = 0; r < KINDS; r++) {
            Due.is("typeOf(" + r + ")", x.typeOf(r), types[r]);
            Due.is("length(" + r + ")", x.length(r), lengths[r]);
            Due.is("which(" + r + ")", x.which(r), whichs[r]);
            Due.is("many(" + r + ")", x.many(r), manys[r]);
            Due.is("digit(" + r + ", 0)", x.digit(r, 0), r == 3 ? 7 : -1);
            Due.is("digit(" + r + ", 9)", x.digit(r, 9), r == 3 ? 0 : -1);
            Due.is("isBelow(" + r + ")", x.isBelow(r) ? 1 : 0, r == 3 ? 1 : 0);
            Due.is("byteAt(" + r + ", 0)", x.byteAt(r, 0), r == 4 ? 0x41 : -1);
            Due.is("has(" + r + ", 3)", x.has(r, 3), r >= 11 && r <= 13 ? 1 : -1);
            Due.is("compare(" + r + ", " + r + ")", x.compare(r, r), r <= 9 ? 0 : 2);
        }
    }

    private static void noRegisters() {
        ValueTrees x = Make.oneOfEach();
        for (int r : Make.NO_REGISTERS) {
            Due.is("typeOf(" + r + ")", x.typeOf(r), -1);
            Due.is("length(" + r + ")", x.length(r), -1);
            Due.is("which(" + r + ")", x.which(r), -1);
            Due.is("many(" + r + ")", x.many(r), -1);
            Due.is("digit(" + r + ", 0)", x.digit(r, 0), -1);
            Due.no("isBelow(" + r + ")", x.isBelow(r));
            Due.is("byteAt(" + r + ", 0)", x.byteAt(r, 0), -1);
            Due.is("has(" + r + ", 3)", x.has(r, 3), -1);
            Due.is("has(11, " + r + ")", x.has(11, r), -1);
            Due.is("compare(" + r + ", 3)", x.compare(r, 3), 2);
            Due.is("compare(3, " + r + ")", x.compare(3, r), 2);
            Due.is("compare(" + r + ", " + r + ")", x.compare(r, r), 2);
        }
    }

    private static void digits() {
        ValueTrees x = new ValueTrees();
        x.number(0, 2, -0x1234_0000_ffff_0001L);
        int[] want = {1, 0xffff, 0, 0x1234, 0, 0};
        for (int i = 0; i < want.length; i++) {
            Due.is("digit(0, " + i + ")", x.digit(0, i), want[i]);
        }
        Due.is("digit(0, max)", x.digit(0, Integer.MAX_VALUE), 0);
        Due.is("digit(0, -1)", x.digit(0, -1), -1);
        Due.is("digit(0, min)", x.digit(0, Integer.MIN_VALUE), -1);
        Due.yes("isBelow(0)", x.isBelow(0));
        x.number(1, 3, 0);
        Due.is("digit of zero", x.digit(1, 0), 0);
        Due.no("zero is not below", x.isBelow(1));
    }

    private static void bytesOfRows() {
        ValueTrees x = new ValueTrees();
        x.bytes(0, 5, 0xff80_0100_7f41_42feL, 7);
        int[] want = {0xfe, 0x42, 0x41, 0x7f, 0, 1, 0x80, -1, -1};
        for (int i = 0; i < want.length; i++) {
            Due.is("byteAt(0, " + i + ")", x.byteAt(0, i), want[i]);
        }
        Due.is("byteAt(0, -1)", x.byteAt(0, -1), -1);
        Due.is("byteAt(0, min)", x.byteAt(0, Integer.MIN_VALUE), -1);
        Due.is("byteAt(0, max)", x.byteAt(0, Integer.MAX_VALUE), -1);
    }

    private static void hasKeys() {
        ValueTrees x = new ValueTrees();
        int option = x.type(10, 5, 0);
        x.empty(0, x.type(12, option, 0));
        x.empty(1, option);
        x.bytes(2, 5, 65, 1);
        x.wrap(2, option, 0, 2);
        x.bytes(3, 5, 66, 1);
        x.wrap(3, option, 0, 3);
        Due.is("in an empty set", x.has(0, 1), 0);
        x.put(0, 0, 2, 0);
        Due.is("some a", x.has(0, 2), 1);
        Due.is("some b", x.has(0, 3), 0);
        Due.is("the none of an option", x.has(0, 1), 0);
        x.put(0, 0, 1, 0);
        Due.is("the none of an option, put", x.has(0, 1), 1);
        x.remove(0, 0, 2);
        Due.is("some a, removed", x.has(0, 2), 0);
    }

    private static void hasNone() {
        ValueTrees x = Make.oneOfEach();
        x.number(15, 3, 7);
        for (int tree = 11; tree <= 13; tree++) {
            Due.is("a key of another type", x.has(tree, 15), -1);
            Due.is("no key", x.has(tree, 14), -1);
        }
        Due.is("no tree", x.has(14, 3), -1);
        x.number(15, 2, 7);
        Due.is("one that is not there", x.has(11, 15), 0);
        Due.is("not in a map", x.has(12, 15), 0);
        Due.is("not in a big_map", x.has(13, 15), 0);
    }

    private static void bothWays(ValueTrees x, String what, int a, int b, int want) {
        Due.is(what, x.compare(a, b), want);
        Due.is(what + ", the other way", x.compare(b, a), -want);
    }

    private static void compareNumbers() {
        ValueTrees x = new ValueTrees();
        long[] up = {Long.MIN_VALUE, -65537, -65536, -65535, -1, 0, 1, 65535, 65536, 131071, Long.MAX_VALUE};
        for (int i = 0; i < up.length; i++) {
            for (int j = i; j < up.length; j++) {
                x.number(0, 8, up[i]);
                x.number(1, 8, up[j]);
                bothWays(x, up[i] + " and " + up[j], 0, 1, i == j ? 0 : -1);
            }
        }
        x.number(2, 2, 3);
        x.number(3, 2, -3);
        x.times(2, 2, 900);
        x.times(3, 3, 900);
        bothWays(x, "-3 * 2^900 and 3 * 2^900", 3, 2, -1);
        x.number(4, 2, 5);
        x.times(4, 4, 900);
        bothWays(x, "3 * 2^900 and 5 * 2^900", 2, 4, -1);
        x.number(5, 2, -2);
        x.times(5, 5, 900);
        bothWays(x, "-3 * 2^900 and -2 * 2^900", 3, 5, -1);
        x.number(6, 2, 6);
        x.times(6, 6, 899);
        bothWays(x, "3 * 2^900 and 6 * 2^899", 2, 6, 0);
    }

    private static void compareRows() {
        ValueTrees x = new ValueTrees();
        x.bytes(0, 5, 0, 0);
        x.bytes(1, 5, 0, 1);
        x.bytes(2, 5, 0x41, 1);
        x.bytes(3, 5, 0x4141, 2);
        x.bytes(4, 5, 0x7f41, 2);
        x.bytes(5, 5, 0x8041, 2);
        x.bytes(6, 5, 0x0042, 2);
        x.bytes(7, 5, 0xff, 1);
        for (int i = 0; i <= 7; i++) {
            for (int j = i; j <= 7; j++) {
                bothWays(x, "rows " + i + " and " + j, i, j, i == j ? 0 : -1);
            }
        }
        // What lies above the n lowest bytes is no part of the row.
        x.bytes(8, 5, 0x1234_0041L, 1);
        bothWays(x, "rows with other bytes above", 2, 8, 0);
        x.bytes(9, 6, 0x41, 1);
        Due.is("string and bytes", x.compare(2, 9), 2);
    }

    private static void compareChoices() {
        ValueTrees x = new ValueTrees();
        int option = x.type(10, 2, 0);
        int or = x.type(14, 2, 2);
        x.simple(0, 1);
        x.simple(1, 2);
        bothWays(x, "false and true", 0, 1, -1);
        bothWays(x, "true and true", 1, 1, 0);
        x.simple(2, 0);
        x.simple(3, 0);
        bothWays(x, "unit and unit", 2, 3, 0);
        Due.is("unit and false", x.compare(2, 0), 2);
        x.empty(4, option);
        x.number(5, 2, -9);
        x.number(6, 2, 9);
        x.wrap(7, option, 0, 5);
        x.wrap(8, option, 0, 6);
        bothWays(x, "none and some", 4, 7, -1);
        bothWays(x, "some and some", 7, 8, -1);
        bothWays(x, "none and none", 4, 4, 0);
        x.wrap(9, or, 0, 6);
        x.wrap(10, or, 1, 5);
        x.wrap(11, or, 0, 5);
        x.wrap(12, or, 1, 6);
        bothWays(x, "left 9 and right -9", 9, 10, -1);
        bothWays(x, "left -9 and left 9", 11, 9, -1);
        bothWays(x, "right -9 and right 9", 10, 12, -1);
        bothWays(x, "right and right", 12, 12, 0);
    }

    private static void comparePairs() {
        ValueTrees x = new ValueTrees();
        for (int i = 0; i < 4; i++) {
            x.number(0, 2, i / 2);
            x.number(1, 3, i % 2);
            x.pair(2 + i, 0, 1);
        }
        for (int i = 0; i < 4; i++) {
            for (int j = i; j < 4; j++) {
                bothWays(x, "pairs " + i + " and " + j, 2 + i, 2 + j, i == j ? 0 : -1);
            }
        }
    }

    private static void compareOthers() {
        ValueTrees x = new ValueTrees();
        x.number(0, 2, 1);
        x.number(1, 3, 1);
        x.number(2, 4, 1);
        x.number(3, 8, 1);
        for (int a = 0; a < 4; a++) {
            for (int b = 0; b < 4; b++) {
                Due.is("types of numbers " + a + ", " + b, x.compare(a, b), a == b ? 0 : 2);
            }
        }
        int list = x.type(11, 2, 0);
        x.empty(4, list);
        Due.is("lists", x.compare(4, 4), 2);
        x.empty(5, x.type(10, list, 0));
        Due.is("none of an option of lists", x.compare(5, 5), 2);
        x.pair(6, 0, 4);
        Due.is("pairs with a list", x.compare(6, 6), 2);
        x.empty(7, x.type(10, 7, 0));
        Due.is("none of an option of address", x.compare(7, 7), 0);
        Due.is("nothing", x.compare(9, 9), 2);
        Due.is("a number and nothing", x.compare(0, 9), 2);
        Due.is("nothing and a number", x.compare(9, 0), 2);
    }

    private static void compareDeepOptions() {
        ValueTrees x = new ValueTrees();
        x.simple(0, 1);
        x.simple(1, 2);
        int type = 1;
        for (int wraps = 1; wraps <= 79; wraps++) {
            type = x.type(10, type, 0);
            Due.is("wrap " + wraps, x.wrap(0, type, 0, 0), 2 + 2 * wraps);
            x.wrap(1, type, 0, 1);
        }
        bothWays(x, "some of .. false and some of .. true", 0, 1, -1);
        Due.is("one wrap more", x.wrap(0, x.type(10, type, 0), 0, 0), -2);
    }

    private static void compareDeepPairs() {
        ValueTrees x = new ValueTrees();
        x.simple(0, 0);
        for (int r = 1; r <= 4; r++) {
            x.simple(r, r % 2 + 1);
        }
        for (int pairs = 1; pairs <= 39; pairs++) {
            Due.is("pair " + pairs, x.pair(1, 1, 0), 2 + 4 * pairs);
            x.pair(2, 2, 0);
            x.pair(3, 0, 3);
            x.pair(4, 0, 4);
        }
        bothWays(x, "first of .. true and first of .. false", 1, 2, 1);
        bothWays(x, "second of .. true and second of .. false", 3, 4, 1);
        Due.is("one pair more", x.pair(1, 1, 0), -2);
    }
}
