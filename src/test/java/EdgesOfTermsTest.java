/** What the terms say of values, their order, their length and the registers: a test for each sentence that names an edge. */
public final class EdgesOfTermsTest {
    public static void main(String[] args) {
        theLastOfAllCalls();
        theLastOfAllCallsOnAFullList();
        changesLeaveTheOldOnes();
        changesLeaveWhatIsInOthers();
        eachKnowsItsLength();
        wholeNumbersOfIntAndTimestamp();
        natsFromZeroOn();
        mutezBelowTwoToThe63();
        setsOfDifferentOnes();
        mapsOfDifferentKeys();
        noneOfTheOthers();
        falseIsBeforeTrue();
        numbersBySize();
        rowsUnsigned();
        theShorterOneFirst();
        noneBeforeSomeThenInside();
        leftBeforeRightThenInside();
        pairsByTheFirstThenTheSecond();
        lengthsOfNumbersBelow64();
        lengthsOfNumbersFrom64On();
        lengthsOfRows();
        lengthsOfTwo();
        lengthsOfSomeLeftRight();
        lengthsOfPairs();
        lengthsOfListsAndSets();
        lengthsOfMaps();
        above160IsFull();
        fullChangesNothing();
        inPlaceAtTheFullLength();
        registersAreSixteen();
        madeValuesAnswerTheirLength();
        noneComesFirst();
        noneChangesNothing();
        Due.end();
    }

    private static void theLastOfAllCalls() {
        Due.sentence("An object is used for at most 512 calls after it has been made");
        ValueTrees x = new ValueTrees();
        for (int call = 1; call <= 512; call++) {
            int i = call - 1;
            Due.is("call " + call, x.type(18, i / 10, i % 10), 10 + i);
        }
    }

    private static void theLastOfAllCallsOnAFullList() {
        Due.sentence("An object is used for at most 512 calls after it has been made: with long values");
        ValueTrees x = new ValueTrees();
        x.empty(0, x.type(11, 0, 0));
        x.simple(1, 0);
        for (int call = 4; call <= 511; call += 2) {
            int many = Math.min((call - 2) / 2, 77);
            Due.is("cons, call " + call, x.cons(0, 1, 0), (call - 2) / 2 <= 77 ? 5 + 2 * many : -2);
            Due.is("many, call " + (call + 1), x.many(0), many);
        }
        Due.is("length, call 512", x.length(0), 159);
    }

    private static void changesLeaveTheOldOnes() {
        Due.sentence("terms: Changes make new values and leave the old ones");
        Refused.Call[] changes = {
            x -> x.times(15, 3, 9), x -> x.wrap(15, x.typeOf(6), 0, 3), x -> x.pair(15, 3, 3), x -> x.cons(15, 3, 10),
            x -> x.put(15, 11, 14, 14), x -> x.put(15, 12, 14, 14), x -> x.put(15, 12, 3, 14), x -> x.put(15, 13, 14, 14),
            x -> x.remove(15, 11, 3), x -> x.remove(15, 12, 3), x -> x.remove(15, 13, 3),
            x -> x.part(15, 9, 0), x -> x.part(15, 10, 1), x -> x.get(15, 12, 3), x -> x.at(15, 11, 0, 0),
        };
        for (int i = 0; i < changes.length; i++) {
            ValueTrees x = eachAndANumber();
            ValueTrees other = eachAndANumber();
            Due.yes("change " + i, changes[i].on(x) > 0);
            x.clear(15);
            x.type(18, 2, 2);
            other.type(18, 2, 2);
            Due.same("what is there after change " + i, Refused.looks(x), Refused.looks(other));
            Due.is("the old set's key", x.has(11, 3), 1);
            Due.is("the old map's key", x.has(12, 3), 1);
            x.get(15, 12, 3);
            Due.is("the old map's value", x.compare(15, 3), 0);
        }
    }

    private static ValueTrees eachAndANumber() {
        ValueTrees x = Make.oneOfEach();
        x.number(14, 2, 70000);
        return x;
    }

    private static void changesLeaveWhatIsInOthers() {
        Due.sentence("terms: Changes make new values and leave the old ones: also where the register itself gets the new one");
        ValueTrees x = eachAndANumber();
        int[] trees = {11, 12, 13};
        for (int tree : trees) {
            x.pair(15, tree, tree);
            x.put(tree, tree, 14, 14);
            Due.is("many of the new one", x.many(tree), 2);
            x.part(0, 15, 0);
            Due.is("many of the old one", x.many(0), 1);
            x.remove(tree, tree, 3);
            x.part(0, 15, 1);
            Due.is("has the old one its key", x.has(0, 3), 1);
            Due.is("has it the new one", x.has(0, 14), 0);
        }
        x.pair(15, 10, 3);
        x.cons(10, 14, 10);
        x.times(3, 3, 1);
        x.part(0, 15, 0);
        x.part(1, 15, 1);
        Due.is("the old list", x.many(0), 1);
        Due.is("the old number", x.digit(1, 0), 7);
        x.part(0, 0, 0);
        Due.is("the old number in the old list", x.digit(0, 0), 7);
    }

    private static void eachKnowsItsLength() {
        Due.sentence("terms: each knows how long its form would be");
        ValueTrees x = Make.oneOfEach();
        int[] lengths = {2, 2, 2, 2, 7, 2, 4, 4, 4, 11, 7, 7, 11, 11, -1, -1};
        for (int r = 0; r < 16; r++) {
            Due.is("length(" + r + ")", x.length(r), lengths[r]);
        }
    }

    private static void wholeNumbersOfIntAndTimestamp() {
        Due.sentence("terms: VALUES of int and timestamp the whole numbers");
        long[] values = {Long.MIN_VALUE, Long.MIN_VALUE + 1, -1, 0, 1, Long.MAX_VALUE};
        int[] lengths = {11, 11, 2, 2, 2, 11};
        int[] top = {32768, 32767, 0, 0, 0, 32767};
        int[] low = {0, 65535, 1, 0, 1, 65535};
        for (int type = 2; type <= 8; type += 6) {
            ValueTrees x = new ValueTrees();
            for (int i = 0; i < values.length; i++) {
                Due.is(values[i] + " of type " + type, x.number(i, type, values[i]), lengths[i]);
                Due.is("is it below 0", x.isBelow(i) ? 1 : 0, values[i] < 0 ? 1 : 0);
                Due.is("its digit 3", x.digit(i, 3), top[i]);
                Due.is("its digit 0", x.digit(i, 0), low[i]);
                Due.is("its digit 4", x.digit(i, 4), 0);
            }
        }
    }

    private static void natsFromZeroOn() {
        Due.sentence("terms: VALUES of nat those from 0 on");
        Due.is("nat 0", new ValueTrees().number(0, 3, 0), 2);
        Due.is("nat 2^63 - 1", new ValueTrees().number(0, 3, Long.MAX_VALUE), 11);
        Refused.none("nat -1", x -> x.number(0, 3, 1), x -> x.number(0, 3, -1));
        Refused.none("nat -2^63", x -> x.number(0, 3, 1), x -> x.number(0, 3, Long.MIN_VALUE));
        ValueTrees x = new ValueTrees();
        x.number(0, 3, 1);
        Due.is("nat 2^63", x.times(0, 0, 63), 11);
        Due.is("nat 2^1023", x.times(0, 0, 960), 148);
    }

    private static void mutezBelowTwoToThe63() {
        Due.sentence("terms: VALUES of mutez those below 2^63 of them");
        Due.is("mutez 0", new ValueTrees().number(0, 4, 0), 2);
        Due.is("mutez 2^63 - 1", new ValueTrees().number(0, 4, Long.MAX_VALUE), 11);
        Refused.none("mutez -1", x -> x.number(0, 4, 1), x -> x.number(0, 4, -1));
        Refused.none("mutez -2^63", x -> x.number(0, 4, 1), x -> x.number(0, 4, Long.MIN_VALUE));
        ValueTrees x = new ValueTrees();
        x.number(0, 4, 1);
        Due.is("mutez 2^62", x.times(1, 0, 62), 11);
        Refused.none("mutez 2^63", y -> y.number(0, 4, 1), y -> y.times(0, 0, 63));
        Refused.none("mutez 2^63, twice 2^62", y -> y.number(0, 4, 1L << 62), y -> y.times(0, 0, 1));
    }

    private static void setsOfDifferentOnes() {
        Due.sentence("terms: VALUES of set some different ones");
        ValueTrees x = new ValueTrees();
        x.empty(0, x.type(12, 2, 0));
        x.number(1, 2, 96);
        x.number(2, 2, 3);
        x.times(2, 2, 5);
        Due.is("put 96", x.put(0, 0, 1, 0), 8);
        Due.is("put 3 * 2^5", x.put(0, 0, 2, 0), 8);
        Due.is("many(0)", x.many(0), 1);
        x.number(1, 2, -96);
        Due.is("put -96", x.put(0, 0, 1, 0), 11);
        Due.is("many(0)", x.many(0), 2);
    }

    private static void mapsOfDifferentKeys() {
        Due.sentence("terms: VALUES of map and big_map some different KEYS, each with a value");
        for (int word = 15; word <= 16; word++) {
            ValueTrees x = new ValueTrees();
            x.empty(0, x.type(word, 5, 2));
            x.bytes(1, 5, 0x6141, 1);
            x.bytes(2, 5, 0x6241, 1);
            x.bytes(3, 5, 0x6241, 2);
            x.number(4, 2, 1);
            x.number(5, 2, 64);
            Due.is("put A", x.put(0, 0, 1, 4), 15);
            Due.is("put A again, made from other letters", x.put(0, 0, 2, 5), 16);
            Due.is("many(0)", x.many(0), 1);
            Due.is("put Ab with the same value", x.put(0, 0, 3, 5), 28);
            Due.is("many(0)", x.many(0), 2);
        }
    }

    private static void noneOfTheOthers() {
        Due.sentence("terms: (Here there are none of the others.)");
        for (int word = 13; word <= 17; word += 4) {
            int w = word;
            Refused.none("empty of word " + w, x -> x.type(w, 0, 0), x -> x.empty(0, 10));
            Refused.none("wrap of word " + w, x -> { x.type(w, 0, 0); x.simple(0, 0); }, x -> x.wrap(1, 10, 0, 0));
            Refused.none("number of word " + w, x -> x.type(w, 2, 2), x -> x.number(0, 10, 0));
            Refused.none("bytes of word " + w, x -> x.type(w, 5, 5), x -> x.bytes(0, 10, 0, 0));
        }
        int[] types = {7, 9};
        for (int t : types) {
            Refused.none("number of type " + t, x -> { }, x -> x.number(0, t, 0));
            Refused.none("bytes of type " + t, x -> { }, x -> x.bytes(0, t, 0, 0));
            Refused.none("empty of type " + t, x -> { }, x -> x.empty(0, t));
            Refused.none("wrap of type " + t, x -> x.simple(0, 0), x -> x.wrap(0, t, 0, 0));
        }
    }

    private static void upwards(String what, ValueTrees x, int... registers) {
        for (int i = 0; i < registers.length; i++) {
            for (int j = 0; j < registers.length; j++) {
                int want = Integer.compare(i, j);
                Due.is(what + ", the " + i + "th and the " + j + "th", x.compare(registers[i], registers[j]), want);
            }
        }
    }

    private static void falseIsBeforeTrue() {
        Due.sentence("terms: ORDER: false is before true");
        ValueTrees x = new ValueTrees();
        x.simple(0, 1);
        x.simple(1, 2);
        upwards("bools", x, 0, 1);
    }

    private static void numbersBySize() {
        Due.sentence("terms: ORDER: numbers by size");
        ValueTrees x = new ValueTrees();
        long[] up = {
            Long.MIN_VALUE, Long.MIN_VALUE + 1, -4294967296L, -65536, -65535, -2, -1, 0, 1, 2, 65535, 65536, 4294967296L,
            Long.MAX_VALUE - 1, Long.MAX_VALUE,
        };
        int[] registers = new int[up.length];
        for (int i = 0; i < up.length; i++) {
            x.number(i, 2, up[i]);
            registers[i] = i;
        }
        upwards("ints", x, registers);
        ValueTrees y = new ValueTrees();
        y.number(2, 2, -1);
        y.number(3, 2, 1);
        y.times(1, 2, 1000);
        y.times(4, 3, 1000);
        y.times(0, 1, 23);
        y.times(5, 4, 23);
        upwards("large ints", y, 0, 1, 2, 3, 4, 5);
    }

    private static void rowsUnsigned() {
        Due.sentence("terms: ORDER: rows of bytes by their bytes, unsigned");
        for (int type = 5; type <= 6; type++) {
            ValueTrees x = new ValueTrees();
            long[] firsts = {0, 1, 127, 128, 129, 254, 255};
            for (int i = 0; i < firsts.length; i++) {
                x.bytes(i, type, firsts[i], 1);
            }
            upwards("one byte", x, 0, 1, 2, 3, 4, 5, 6);
            x.bytes(0, type, 0xff_00L, 2);
            x.bytes(1, type, 0x00_01L, 2);
            x.bytes(2, type, 0x7f_ff_ff_ff_ff_ff_ff_ffL, 8);
            x.bytes(3, type, -1, 8);
            upwards("the first byte counts most, the last one least", x, 0, 1, 2, 3);
        }
    }

    private static void theShorterOneFirst() {
        Due.sentence("terms: ORDER: the shorter one first if it begins the other");
        ValueTrees x = new ValueTrees();
        for (int n = 0; n <= 8; n++) {
            x.bytes(n, 6, 0, n);
        }
        upwards("rows of zeros", x, 0, 1, 2, 3, 4, 5, 6, 7, 8);
        x.bytes(0, 6, 0x41_42L, 2);
        x.bytes(1, 6, 0x43, 1);
        upwards("a shorter one that does not begin the other", x, 0, 1);
    }

    private static void noneBeforeSomeThenInside() {
        Due.sentence("terms: ORDER: none before some, then by what is in them");
        ValueTrees x = new ValueTrees();
        int option = x.type(10, 2, 0);
        int outer = x.type(10, option, 0);
        x.empty(0, option);
        x.number(1, 2, Long.MIN_VALUE);
        x.wrap(1, option, 0, 1);
        x.number(2, 2, 0);
        x.wrap(2, option, 0, 2);
        upwards("options", x, 0, 1, 2);
        for (int r = 2; r >= 0; r--) {
            x.wrap(r + 1, outer, 0, r);
        }
        x.empty(0, outer);
        upwards("options of options", x, 0, 1, 2, 3);
    }

    private static void leftBeforeRightThenInside() {
        Due.sentence("terms: ORDER: left before right, then by what is in them");
        ValueTrees x = new ValueTrees();
        int or = x.type(14, 2, 2);
        x.number(0, 2, -1);
        x.number(1, 2, 1);
        x.wrap(2, or, 0, 0);
        x.wrap(3, or, 0, 1);
        x.wrap(4, or, 1, 0);
        x.wrap(5, or, 1, 1);
        upwards("alternatives", x, 2, 3, 4, 5);
        int other = x.type(14, 5, 2);
        x.bytes(6, 5, -1, 8);
        x.wrap(6, other, 0, 6);
        x.wrap(7, other, 1, 0);
        upwards("alternatives of two types", x, 6, 7);
    }

    private static void pairsByTheFirstThenTheSecond() {
        Due.sentence("terms: ORDER: pairs by the first, then by the second");
        ValueTrees x = new ValueTrees();
        for (int i = 0; i < 9; i++) {
            x.number(14, 2, i / 3 - 1);
            x.number(15, 2, i % 3 - 1);
            x.pair(i, 14, 15);
        }
        upwards("pairs", x, 0, 1, 2, 3, 4, 5, 6, 7, 8);
        x.simple(15, 0);
        for (int i = 0; i < 3; i++) {
            x.pair(i, i, 15);
            x.pair(i, 15, i);
        }
        upwards("pairs within pairs", x, 0, 1, 2);
    }

    private static void lengthsOfNumbersBelow64() {
        Due.sentence("terms: LENGTH: a number has 2");
        for (int size = 0; size <= 63; size++) {
            ValueTrees x = new ValueTrees();
            Due.is("number " + size, x.number(0, 2, size), 2);
            Due.is("number -" + size, x.number(0, 2, -size), 2);
        }
        Due.is("number 64", new ValueTrees().number(0, 2, 64), 3);
        Due.is("number -64", new ValueTrees().number(0, 2, -64), 3);
    }

    private static void lengthsOfNumbersFrom64On() {
        Due.sentence("terms: LENGTH: if its size is 64 or more, 1 more for each digit to the base 128 of its size divided by 64");
        ValueTrees x = new ValueTrees();
        for (int digits = 1; digits <= 8; digits++) {
            long least = 1L << 7 * digits - 1;
            Due.is(digits + " digits, the least", x.number(0, 3, least), 2 + digits);
            Due.is("one below it", x.number(0, 3, least - 1), 1 + digits);
            Due.is("-" + least, x.number(0, 8, -least), 2 + digits);
            Due.is("one above that", x.number(0, 8, 1 - least), 1 + digits);
        }
        Due.is("2^62 - 1, the last of eight digits", x.number(0, 2, (1L << 62) - 1), 10);
        Due.is("2^62, the first of nine", x.number(0, 2, 1L << 62), 11);
        x.number(0, 2, 1);
        for (int digits = 9; digits <= 143; digits++) {
            Due.is("2^" + (7 * digits - 1), x.times(1, 0, 7 * digits - 1), 2 + digits);
            Due.is("2^" + (7 * digits - 2), x.times(1, 0, 7 * digits - 2), 1 + digits);
        }
        x.times(1, 0, 1000);
        Due.is("2^1020", x.times(2, 1, 20), 147);
        Due.is("2^1021", x.times(2, 1, 21), 148);
        Due.is("2^1022", x.times(2, 1, 22), 148);
        Due.is("2^1023", x.times(2, 1, 23), 148);
    }

    private static void lengthsOfRows() {
        Due.sentence("terms: LENGTH: a row of n bytes: 5 + n");
        for (int n = 0; n <= 8; n++) {
            Due.is("a string of " + n, new ValueTrees().bytes(0, 5, -1, n), 5 + n);
            Due.is("bytes, " + n + " zeros", new ValueTrees().bytes(0, 6, 0, n), 5 + n);
        }
    }

    private static void lengthsOfTwo() {
        Due.sentence("terms: LENGTH: Unit, false, true, none: 2");
        ValueTrees x = new ValueTrees();
        Due.is("unit", x.simple(0, 0), 2);
        Due.is("false", x.simple(1, 1), 2);
        Due.is("true", x.simple(2, 2), 2);
        Due.is("none", x.empty(3, x.type(10, Make.typeOfParts(x, 199), 0)), 2);
        for (int r = 0; r < 4; r++) {
            Due.is("length(" + r + ")", x.length(r), 2);
        }
    }

    private static void lengthsOfSomeLeftRight() {
        Due.sentence("terms: LENGTH: Some, left, right: 2, and that of what is in it");
        int[] inside = {2, 3, 144};
        for (int length : inside) {
            ValueTrees x = new ValueTrees();
            Make.number(x, 0, length);
            Due.is("some of " + length, x.wrap(1, x.type(10, 2, 0), 0, 0), 2 + length);
            Due.is("left of " + length, x.wrap(1, x.type(14, 2, 0), 0, 0), 2 + length);
            Due.is("right of " + length, x.wrap(1, x.type(14, 0, 2), 1, 0), 2 + length);
        }
    }

    private static void lengthsOfPairs() {
        Due.sentence("terms: LENGTH: a pair: 2, and both");
        ValueTrees x = new ValueTrees();
        Make.number(x, 0, 2);
        Make.number(x, 1, 3);
        Make.number(x, 2, 144);
        Due.is("2 and 2", x.pair(3, 0, 0), 6);
        Due.is("2 and 3", x.pair(3, 0, 1), 7);
        Due.is("3 and 2", x.pair(3, 1, 0), 7);
        Due.is("144 and 3", x.pair(3, 2, 1), 149);
        Due.is("3 and 144", x.pair(3, 1, 2), 149);
    }

    private static void lengthsOfListsAndSets() {
        Due.sentence("terms: LENGTH: a list or set: 5, and all of them");
        ValueTrees x = new ValueTrees();
        Due.is("an empty list", x.empty(0, x.type(11, 2, 0)), 5);
        Due.is("an empty set", x.empty(1, x.type(12, 2, 0)), 5);
        int length = 5;
        for (int i = 2; i <= 16; i++) {
            Make.number(x, 2, i);
            length += i;
            Due.is("a list of " + (i - 1), x.cons(0, 2, 0), length);
            Due.is("a set of " + (i - 1), x.put(1, 1, 2, 0), length);
        }
    }

    private static void lengthsOfMaps() {
        Due.sentence("terms: LENGTH: a map or big_map: 5, and for each key 2, its length, and that of its value");
        for (int word = 15; word <= 16; word++) {
            ValueTrees x = new ValueTrees();
            Due.is("an empty one", x.empty(0, x.type(word, 2, 2)), 5);
            int length = 5;
            for (int i = 2; i <= 9; i++) {
                Make.number(x, 1, i);
                Make.number(x, 2, 11 - i);
                length += 2 + i + 11 - i;
                Due.is("one of " + (i - 1) + " keys", x.put(0, 0, 1, 2), length);
            }
        }
    }

    /** Register 0 gets a list of a length, 1 a number of length 3, 2 none at all; types 11 .. 16 hold the list. */
    private static void aListToHold(ValueTrees x, int length) {
        x.type(11, 2, 0);
        x.type(10, 10, 0);
        x.type(14, 10, 2);
        x.type(14, 2, 10);
        x.type(15, 2, 10);
        x.type(16, 2, 10);
        x.type(12, 2, 0);
        Make.list(x, 0, length);
        Make.number(x, 1, 3);
        x.clear(15);
    }

    private static int putOfOne(ValueTrees x, int type) {
        x.empty(3, type);
        return x.put(4, 3, 1, 0);
    }

    private static int putIntoASet(ValueTrees x, int length) {
        x.empty(3, 16);
        Make.number(x, 4, (length - 5) / 2);
        x.put(3, 3, 4, 0);
        x.number(4, 2, -1);
        x.times(4, 4, 7 * (length - 5 - (length - 5) / 2 - 2));
        return x.put(4, 3, 4, 0);
    }

    private static int intoOther(int kind, ValueTrees x, int length) {
        switch (kind) {
            case 0: aListToHold(x, length - 2); return x.wrap(4, 11, 0, 0);
            case 1: aListToHold(x, length - 2); return x.wrap(4, 12, 0, 0);
            case 2: aListToHold(x, length - 2); return x.wrap(4, 13, 1, 0);
            case 3: aListToHold(x, length - 5); return x.pair(4, 0, 1);
            case 4: aListToHold(x, length - 5); return x.pair(4, 1, 0);
            case 5: aListToHold(x, length - 3); return x.cons(4, 1, 0);
            case 6: aListToHold(x, length - 10); return putOfOne(x, 14);
            case 7: aListToHold(x, length - 10); return putOfOne(x, 15);
            default: aListToHold(x, 20); return putIntoASet(x, length);
        }
    }

    private static void above160IsFull() {
        Due.sentence("terms: What would have a length above 160 is not made: FULL");
        String[] kinds = {"some", "left", "right", "pair", "pair", "list", "map", "big_map", "set"};
        for (int kind = 0; kind < kinds.length; kind++) {
            ValueTrees x = new ValueTrees();
            Due.is(kinds[kind] + " of 159", intoOther(kind, x, 159), 159);
            Due.is("length(4)", x.length(4), 159);
            ValueTrees y = new ValueTrees();
            Due.is(kinds[kind] + " of 160", intoOther(kind, y, 160), 160);
            Due.is("length(4)", y.length(4), 160);
            Due.is(kinds[kind] + " of 161", intoOther(kind, new ValueTrees(), 161), -2);
            Due.is(kinds[kind] + " of 162", intoOther(kind, new ValueTrees(), 162), -2);
        }
        ValueTrees x = new ValueTrees();
        Make.list(x, 0, 160);
        Due.is("a pair of 160 and 160", x.pair(0, 0, 0), -2);
        Due.is("length(0)", x.length(0), 160);
    }

    private static void fullChangesNothing() {
        Due.sentence("terms: FULL; then nothing is changed");
        Refused.full("wrap", x -> aListToHold(x, 159), x -> x.wrap(0, 11, 0, 0));
        Refused.full("left", x -> aListToHold(x, 159), x -> x.wrap(3, 12, 0, 0));
        Refused.full("right", x -> aListToHold(x, 159), x -> x.wrap(3, 13, 1, 0));
        Refused.full("a pair of a new type", x -> aListToHold(x, 156), x -> x.pair(0, 0, 1));
        Refused.full("a pair of an old type", x -> { aListToHold(x, 156); x.type(18, 10, 2); }, x -> x.pair(3, 0, 1));
        Refused.full("cons", x -> aListToHold(x, 158), x -> x.cons(0, 1, 0));
        for (int type = 14; type <= 15; type++) {
            int t = type;
            Refused.full("put of a new key", x -> { aListToHold(x, 151); x.empty(3, t); }, x -> x.put(3, 3, 1, 0));
            Refused.full("put of an old key", x -> putLonger(x, t), x -> x.put(3, 3, 1, 4));
        }
        Refused.full("put into a set", EdgesOfTermsTest::aFullSet, x -> x.put(0, 0, 2, 0));
        ValueTrees x = new ValueTrees();
        aFullSet(x);
        x.put(0, 0, 2, 0);
        Due.is("has the full set its key", x.has(0, 1), 1);
        Due.is("has it the one that was refused", x.has(0, 2), 0);
    }

    /** Register 3 gets a map of length 160 with the key of register 1; 4 a list that is longer by one than its value. */
    private static void putLonger(ValueTrees x, int type) {
        aListToHold(x, 150);
        x.empty(3, type);
        Due.is("a map of 160", x.put(3, 3, 1, 0), 160);
        Make.list(x, 4, 151);
    }

    /** Register 0 gets a set of length 160, with the key of register 1, and 2 a key that is not in it. */
    private static void aFullSet(ValueTrees x) {
        x.empty(0, x.type(12, 2, 0));
        Make.number(x, 1, 100);
        x.put(0, 0, 1, 0);
        Make.number(x, 1, 55);
        Due.is("a set of 160", x.put(0, 0, 1, 0), 160);
        x.number(2, 2, 0);
    }

    private static void inPlaceAtTheFullLength() {
        Due.sentence("terms: What would have a length above 160 is not made: what would not, is");
        ValueTrees x = new ValueTrees();
        aFullSet(x);
        Due.is("a key that is in the full set", x.put(3, 0, 1, 0), 160);
        Due.is("without it", x.remove(3, 0, 1), 105);
        Due.is("without one that is not in it", x.remove(3, 0, 2), 160);
        Due.is("its key", x.at(3, 0, 1, 0), 100);
        for (int type = 14; type <= 15; type++) {
            ValueTrees y = new ValueTrees();
            putLonger(y, type);
            Due.is("the same value in its place", y.put(5, 3, 1, 0), 160);
            Make.list(y, 4, 149);
            Due.is("a shorter one in its place", y.put(5, 3, 1, 4), 159);
            Due.is("the value out of the full map", y.get(5, 3, 1), 150);
            Due.is("without the key", y.remove(5, 3, 1), 5);
        }
        ValueTrees z = new ValueTrees();
        Make.list(z, 0, 160);
        Due.is("the first of a full list", z.part(1, 0, 0), 78);
        Due.is("the others of a full list", z.part(1, 0, 1), 82);
        Due.yes("move of a full list", z.move(1, 0));
        Due.is("length(1)", z.length(1), 160);
    }

    private static void registersAreSixteen() {
        Due.sentence("terms: REGISTERS are 0 .. 15, with nothing at first");
        ValueTrees x = new ValueTrees();
        for (int r = 0; r < 16; r++) {
            Due.is("typeOf(" + r + ") at first", x.typeOf(r), -1);
            Due.is("number(" + r + ", 2, " + r + ")", x.number(r, 2, r), 2);
        }
        for (int r = 0; r < 16; r++) {
            Due.is("digit(" + r + ", 0)", x.digit(r, 0), r);
        }
        for (int r : Make.NO_REGISTERS) {
            Refused.none("number(" + r + ", 2, 1)", y -> { }, y -> y.number(r, 2, 1));
            Due.is("typeOf(" + r + ")", x.typeOf(r), -1);
        }
    }

    private static void madeValuesAnswerTheirLength() {
        Due.sentence("terms: Calls that make a value answer its length");
        Refused.Call[] calls = {
            x -> x.number(15, 2, 70000), x -> x.times(15, 3, 100), x -> x.bytes(15, 5, 1, 3), x -> x.simple(15, 2),
            x -> x.empty(15, x.typeOf(12)), x -> x.wrap(15, x.typeOf(8), 1, 3), x -> x.pair(15, 9, 4),
            x -> x.cons(15, 3, 10), x -> x.put(15, 12, 3, 3), x -> x.put(15, 11, 3, 3), x -> x.remove(15, 13, 3),
            x -> x.part(15, 9, 1), x -> x.part(15, 10, 1), x -> x.part(15, 6, 0), x -> x.get(15, 13, 3),
            x -> x.at(15, 12, 0, 1),
        };
        int[] lengths = {4, 16, 8, 2, 5, 4, 20, 9, 11, 7, 5, 7, 5, 2, 2, 2};
        for (int i = 0; i < calls.length; i++) {
            ValueTrees x = Make.oneOfEach();
            Due.is("call " + i, calls[i].on(x), lengths[i]);
            Due.is("length(15) after call " + i, x.length(15), lengths[i]);
        }
    }

    private static void noneComesFirst() {
        Due.sentence("terms: NONE when something is not as they say (first), or FULL");
        int[] wrong = {-1, 16};
        for (int r : wrong) {
            Refused.none("wrap", x -> aListToHold(x, 159), x -> x.wrap(r, 11, 0, 0));
            Refused.none("pair", x -> aListToHold(x, 159), x -> x.pair(r, 0, 0));
            Refused.none("cons", x -> aListToHold(x, 158), x -> x.cons(r, 1, 0));
            Refused.none("put into a map", x -> putLonger(x, 14), x -> x.put(r, 3, 1, 4));
            Refused.none("put into a set", EdgesOfTermsTest::aFullSet, x -> x.put(r, 0, 2, 0));
        }
        Refused.none("wrap of another type", x -> aListToHold(x, 160), x -> x.wrap(3, 12, 1, 0));
        Refused.none("an option's side 1", x -> aListToHold(x, 160), x -> x.wrap(3, 11, 1, 0));
        Refused.none("a pair with nothing", x -> aListToHold(x, 160), x -> x.pair(3, 0, 2));
        Refused.none("cons of another type", x -> aListToHold(x, 160), x -> x.cons(3, 0, 0));
        Refused.none("put of another type", x -> putLonger(x, 14), x -> x.put(3, 3, 4, 4));
        Refused.none("put of a value of another type", x -> putLonger(x, 14), x -> x.put(3, 3, 1, 3));
        Refused.none("a pair of too many parts, too long", EdgesOfTermsTest::aLongOneOfManyParts, x -> x.pair(2, 0, 1));
    }

    /** Register 0 gets a none whose type has 197 parts, 1 a list of length 160, whose type has two. */
    private static void aLongOneOfManyParts(ValueTrees x) {
        x.empty(0, x.type(10, Make.typeOfParts(x, 197), 0));
        Make.list(x, 1, 160);
    }

    private static void noneChangesNothing() {
        Due.sentence("terms: NONE; then nothing is changed");
        Refused.Call[] calls = {
            x -> x.number(3, 3, -1), x -> x.times(3, 3, 1001), x -> x.bytes(3, 5, 0, 9), x -> x.simple(3, 3),
            x -> x.empty(3, 2), x -> x.wrap(3, x.typeOf(6), 1, 3), x -> x.pair(3, 3, 15), x -> x.cons(10, 4, 10),
            x -> x.put(11, 11, 4, 3), x -> x.put(12, 12, 3, 4), x -> x.put(13, 13, 3, 15), x -> x.remove(11, 11, 4),
            x -> x.remove(12, 12, 15), x -> x.part(3, 3, 0), x -> x.part(10, 10, 2), x -> x.part(9, 9, 2),
            x -> x.part(6, 6, 1), x -> x.part(5, 5, 0), x -> x.get(11, 11, 3), x -> x.get(12, 12, 4), x -> x.get(13, 13, 15),
            x -> x.at(11, 11, 1, 0), x -> x.at(11, 11, 0, 1), x -> x.at(12, 12, 0, 2), x -> x.at(13, 13, -1, 0),
            x -> x.pair(16, 3, 4), x -> x.pair(-1, 4, 3), x -> x.type(18, 2, 99), x -> x.type(12, x.typeOf(10), 0),
        };
        for (int i = 0; i < calls.length; i++) {
            Refused.none("call " + i, Make::oneOfEach, calls[i]);
        }
    }
}
