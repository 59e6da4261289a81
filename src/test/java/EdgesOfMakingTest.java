/** Promises 4 to 13, the calls that make values: a test for each sentence that names an edge. */
public final class EdgesOfMakingTest {
    private static final int[] FAR = {Integer.MIN_VALUE, Integer.MIN_VALUE + 2, -256, -1, 256, 65538, Integer.MAX_VALUE};

    public static void main(String[] args) {
        numbersOfFourTypes();
        noValueOfItsType();
        timesFromZeroToAThousand();
        timesWhereNIsNotSuch();
        timesWhereThereIsNoNumber();
        timesOutOfItsType();
        timesOutOfAllSizes();
        timesOfItsType();
        lowestBytesFromNoneToEight();
        lowestFirst();
        bytesOfStringOrBytes();
        unitFalseTrue();
        noOtherSimpleOnes();
        emptyOfFiveWords();
        emptyOfNoValues();
        noEmptyOnesOfOthers();
        someLeftRight();
        sidesOfAlternatives();
        anOptionOnlyWithSideZero();
        wrapWithWhatAnotherHas();
        wrapOfOtherTypes();
        pairOfWhatTwoHave();
        pairOfTooManyParts();
        pairOfThe2001stType();
        pairOfATypeThatWasThere();
        consInFront();
        consOfOthers();
        putsAKey();
        putInPlaceOfWhatWasThere();
        putDoesNotLookForASet();
        putLooksForAMap();
        putOfOthers();
        removeBeItThere();
        removeOrNot();
        removeOfOthers();
        noSuchRegisters();
        Due.end();
    }

    private static void numbersOfFourTypes() {
        Due.sentence("promise 4: a number of a type int, nat, mutez or timestamp");
        for (int type = 0; type <= 9; type++) {
            int t = type;
            if (t == 2 || t == 3 || t == 4 || t == 8) {
                ValueTrees x = new ValueTrees();
                Due.is("number(0, " + t + ", 5)", x.number(0, t, 5), 2);
                Due.is("its type", x.typeOf(0), t);
            } else {
                Refused.none("number(0, " + t + ", 5)", x -> x.number(0, 2, 1), x -> x.number(0, t, 5));
            }
        }
        Refused.none("number of no such type", x -> { }, x -> x.number(0, 10, 5));
        Refused.none("number of an option of int", x -> x.type(10, 2, 0), x -> x.number(0, 10, 5));
        for (int t : FAR) {
            Refused.none("number(0, " + t + ", 5)", x -> { }, x -> x.number(0, t, 5));
        }
    }

    private static void noValueOfItsType() {
        Due.sentence("promise 4: NONE: it is no value of it");
        long[] below = {-1, -64, Integer.MIN_VALUE, Long.MIN_VALUE};
        for (long v : below) {
            for (int type = 3; type <= 4; type++) {
                int t = type;
                Refused.none("number(0, " + t + ", " + v + ")", x -> x.number(0, t, 1), x -> x.number(0, t, v));
            }
            Due.yes("number(0, 2, " + v + ")", new ValueTrees().number(0, 2, v) > 0);
            Due.yes("number(0, 8, " + v + ")", new ValueTrees().number(0, 8, v) > 0);
        }
        for (int type = 2; type <= 8; type += type == 4 ? 4 : 1) {
            Due.is("number(0, " + type + ", 0)", new ValueTrees().number(0, type, 0), 2);
            Due.is("number(0, " + type + ", 2^63 - 1)", new ValueTrees().number(0, type, Long.MAX_VALUE), 11);
        }
    }

    private static void timesFromZeroToAThousand() {
        Due.sentence("promise 5: times 2^n, n 0 .. 1000");
        ValueTrees x = new ValueTrees();
        x.number(0, 2, -70000);
        Due.is("times 2^0", x.times(1, 0, 0), 4);
        Due.is("is the same", x.compare(0, 1), 0);
        Due.is("times 2^1", x.times(1, 0, 1), 4);
        Due.is("digit 0", x.digit(1, 0), 140000 - 2 * 65536);
        Due.is("digit 1", x.digit(1, 1), 2);
        Due.yes("below 0", x.isBelow(1));
        Due.is("times 2^999", x.times(1, 0, 999), 2 + (17 + 999) / 7);
        Due.is("times 2^1000", x.times(1, 0, 1000), 2 + (17 + 1000) / 7);
        // 70000 is 0x11170, and 1000 = 62 * 16 + 8.
        Due.is("digit 61", x.digit(1, 61), 0);
        Due.is("digit 62", x.digit(1, 62), 0x7000);
        Due.is("digit 63", x.digit(1, 63), 0x111);
        for (int n = 0; n <= 64; n++) {
            x.number(2, 2, 0x1_8001);
            x.times(2, 2, n);
            Due.is("lowest of 0x18001 times 2^" + n, x.digit(2, n / 16), 0x8001 << n % 16 & 65535);
            Due.is("the next", x.digit(2, n / 16 + 1), 0x1_8001 << n % 16 >>> 16);
        }
        x.number(3, 2, 0);
        Due.is("0 times 2^1000", x.times(3, 3, 1000), 2);
        x.number(4, 2, 0);
        Due.is("is 0", x.compare(3, 4), 0);
        Due.is("digit 62", x.digit(3, 62), 0);
        Due.no("below 0", x.isBelow(3));
    }

    private static void timesWhereNIsNotSuch() {
        Due.sentence("promise 5: NONE: n is not such");
        long[] values = {0, 1, -1};
        for (long v : values) {
            Refused.none(v + " times 2^-1", x -> x.number(0, 2, v), x -> x.times(0, 0, -1));
            Refused.none(v + " times 2^1001", x -> x.number(0, 2, v), x -> x.times(0, 0, 1001));
            for (int n : FAR) {
                if (n != 256) {
                    Refused.none(v + " times 2^" + n, x -> x.number(0, 2, v), x -> x.times(0, 0, n));
                }
            }
        }
    }

    private static void timesWhereThereIsNoNumber() {
        Due.sentence("promise 5: NONE: there is no number");
        for (int r = 0; r < 16; r++) {
            int from = r;
            if (from != 3) {
                Refused.none("times(15, " + from + ", 0)", Make::oneOfEach, x -> x.times(15, from, 0));
            }
        }
        Due.is("times(15, 3, 0)", Make.oneOfEach().times(15, 3, 0), 2);
    }

    private static void timesOutOfItsType() {
        Due.sentence("promise 5: NONE: it would be no value of that type");
        Due.is("mutez 2^63 - 1 times 2^0", timesOf(4, Long.MAX_VALUE, 0), 11);
        Due.is("mutez 1 times 2^62", timesOf(4, 1, 62), 11);
        Due.is("mutez 3 times 2^61", timesOf(4, 3, 61), 11);
        Due.is("mutez 0 times 2^1000", timesOf(4, 0, 1000), 2);
        Refused.none("mutez 2^63 - 1 times 2^1", x -> x.number(0, 4, Long.MAX_VALUE), x -> x.times(0, 0, 1));
        Refused.none("mutez 1 times 2^63", x -> x.number(0, 4, 1), x -> x.times(0, 0, 63));
        Refused.none("mutez 1 times 2^64", x -> x.number(0, 4, 1), x -> x.times(0, 0, 64));
        Refused.none("mutez 3 times 2^62", x -> x.number(0, 4, 3), x -> x.times(0, 0, 62));
        Refused.none("mutez 1 times 2^1000", x -> x.number(0, 4, 1), x -> x.times(0, 0, 1000));
        int[] others = {2, 3, 8};
        for (int type : others) {
            Due.is("type " + type + ", 1 times 2^63", timesOf(type, 1, 63), 11);
        }
    }

    private static int timesOf(int type, long v, int n) {
        ValueTrees x = new ValueTrees();
        x.number(0, type, v);
        return x.times(1, 0, n);
    }

    private static void timesOutOfAllSizes() {
        Due.sentence("promise 5: NONE: its size 2^1024 or more");
        int[] types = {2, 3, 8};
        for (int t : types) {
            Due.is("1 times 2^1000 times 2^23", timesTwice(t, 1, 23), 148);
            Refused.none("1 times 2^1000 times 2^24", x -> timesTwice(x, t, 1, 0), x -> x.times(0, 0, 24));
            Refused.none("1 times 2^1000 times 2^1000", x -> timesTwice(x, t, 1, 0), x -> x.times(0, 0, 1000));
            Due.is("2^63 - 1 times 2^961", timesOf(t, Long.MAX_VALUE, 961), 148);
            Refused.none("2^63 - 1 times 2^962", x -> x.number(0, t, Long.MAX_VALUE), x -> x.times(0, 0, 962));
            Due.is("2^62 times 2^961", timesOf(t, 1L << 62, 961), 148);
            Refused.none("2^62 times 2^962", x -> x.number(0, t, 1L << 62), x -> x.times(0, 0, 962));
            if (t != 3) {
                Due.is("-1 times 2^1000 times 2^23", timesTwice(t, -1, 23), 148);
                Refused.none("-1 times 2^1000 times 2^24", x -> timesTwice(x, t, -1, 0), x -> x.times(0, 0, 24));
                Due.is("-2^63 times 2^960", timesOf(t, Long.MIN_VALUE, 960), 148);
                Refused.none("-2^63 times 2^961", x -> x.number(0, t, Long.MIN_VALUE), x -> x.times(0, 0, 961));
            }
        }
        ValueTrees x = new ValueTrees();
        timesTwice(x, 2, 1, 23);
        Due.is("2^1023 has digit 63", x.digit(0, 63), 32768);
        Due.is("2^1023 times 2^0", x.times(0, 0, 0), 148);
        Due.is("2^1023 times 2^1", x.times(0, 0, 1), -1);
    }

    private static int timesTwice(int type, long v, int n) {
        return timesTwice(new ValueTrees(), type, v, n);
    }

    private static int timesTwice(ValueTrees x, int type, long v, int n) {
        x.number(0, type, v);
        x.times(0, 0, 1000);
        return x.times(0, 0, n);
    }

    private static void timesOfItsType() {
        Due.sentence("promise 5: of its type");
        int[] types = {2, 3, 4, 8};
        for (int type : types) {
            ValueTrees x = new ValueTrees();
            x.number(0, type, 1);
            x.times(1, 0, 5);
            Due.is("typeOf(1)", x.typeOf(1), type);
        }
    }

    private static void lowestBytesFromNoneToEight() {
        Due.sentence("promise 6: the lowest n (0 .. 8) bytes of a number");
        for (int type = 5; type <= 6; type++) {
            int t = type;
            for (int n = 0; n <= 8; n++) {
                ValueTrees x = new ValueTrees();
                Due.is("bytes of " + n, x.bytes(0, t, -1, n), 5 + n);
                Due.is("many(0)", x.many(0), n);
                Due.is("the last byte", x.byteAt(0, n - 1), n == 0 ? -1 : 255);
                Due.is("the byte behind it", x.byteAt(0, n), -1);
                x.bytes(1, t, n == 8 ? -1 : (1L << 8 * n) - 1, n);
                Due.is("the same without what lies above", x.compare(0, 1), 0);
            }
            Refused.none("bytes of -1", x -> x.bytes(0, t, 1, 1), x -> x.bytes(0, t, -1, -1));
            Refused.none("bytes of 9", x -> x.bytes(0, t, 1, 1), x -> x.bytes(0, t, -1, 9));
            for (int n : FAR) {
                Refused.none("bytes of " + n, x -> { }, x -> x.bytes(0, t, -1, n));
            }
        }
    }

    private static void lowestFirst() {
        Due.sentence("promise 6: the lowest first");
        long[] letters = {0x8877665544332211L, Long.MIN_VALUE, Long.MAX_VALUE, -1, 0, 0xff};
        for (long v : letters) {
            ValueTrees x = new ValueTrees();
            x.bytes(0, 6, v, 8);
            long left = v;
            for (int i = 0; i < 8; i++) {
                Due.is("byte " + i + " of " + v, x.byteAt(0, i), left & 255);
                left >>= 8;
            }
        }
    }

    private static void bytesOfStringOrBytes() {
        Due.sentence("promise 6: of a type string or bytes");
        for (int type = 0; type <= 9; type++) {
            int t = type;
            if (t == 5 || t == 6) {
                ValueTrees x = new ValueTrees();
                Due.is("bytes of type " + t, x.bytes(0, t, 65, 1), 6);
                Due.is("typeOf(0)", x.typeOf(0), t);
            } else {
                Refused.none("bytes of type " + t, x -> x.bytes(0, 5, 1, 1), x -> x.bytes(0, t, 65, 1));
            }
        }
        Refused.none("bytes of an option of string", x -> x.type(10, 5, 0), x -> x.bytes(0, 10, 65, 1));
        for (int t : FAR) {
            Refused.none("bytes of type " + t, x -> { }, x -> x.bytes(0, t, 65, 1));
        }
    }

    private static void unitFalseTrue() {
        Due.sentence("promise 7: unit (what = 0), false (1), true (2)");
        ValueTrees x = new ValueTrees();
        Due.is("simple(0, 0)", x.simple(0, 0), 2);
        Due.is("simple(1, 1)", x.simple(1, 1), 2);
        Due.is("simple(2, 2)", x.simple(2, 2), 2);
        Due.is("type of unit", x.typeOf(0), 0);
        Due.is("type of false", x.typeOf(1), 1);
        Due.is("type of true", x.typeOf(2), 1);
        Due.is("which of unit", x.which(0), -1);
        Due.is("which of false", x.which(1), 0);
        Due.is("which of true", x.which(2), 1);
    }

    private static void noOtherSimpleOnes() {
        Due.sentence("promise 7: another what is not as it says");
        Refused.none("simple(0, 3)", x -> x.simple(0, 1), x -> x.simple(0, 3));
        for (int what : FAR) {
            Refused.none("simple(0, " + what + ")", x -> x.simple(0, 1), x -> x.simple(0, what));
        }
    }

    private static void emptyOfFiveWords() {
        Due.sentence("promise 8: the none of an option, an empty list, set, map or big_map");
        int[] words = {10, 11, 12, 15, 16};
        for (int word : words) {
            ValueTrees x = new ValueTrees();
            int t = x.type(word, 2, 5);
            Due.is("empty of word " + word, x.empty(0, t), word == 10 ? 2 : 5);
            Due.is("typeOf(0)", x.typeOf(0), t);
            Due.is("which(0)", x.which(0), word == 10 ? 0 : -1);
            Due.is("many(0)", x.many(0), word == 10 ? -1 : 0);
        }
    }

    private static void emptyOfNoValues() {
        Due.sentence("promise 8: (also of a type of which there are no values here)");
        ValueTrees x = new ValueTrees();
        int[] none = {7, 9, x.type(13, 0, 0), x.type(17, 0, 0), x.type(18, 7, 9)};
        for (int t : none) {
            Due.is("none of " + t, x.empty(0, x.type(10, t, 0)), 2);
            Due.is("list of " + t, x.empty(0, x.type(11, t, 0)), 5);
            Due.is("map to " + t, x.empty(0, x.type(15, 0, t)), 5);
            Due.is("big_map to " + t, x.empty(0, x.type(16, 7, t)), 5);
            Due.is("many(0)", x.many(0), 0);
        }
        Due.is("set of address", x.empty(0, x.type(12, 7, 0)), 5);
        Due.is("map of address", x.empty(0, x.type(15, 7, 9)), 5);
    }

    private static void noEmptyOnesOfOthers() {
        Due.sentence("promise 8: what is empty of a type: NONE where there is no such type or nothing empty of it");
        for (int t = 0; t <= 9; t++) {
            int type = t;
            Refused.none("empty(0, " + type + ")", x -> x.simple(0, 2), x -> x.empty(0, type));
        }
        int[] words = {13, 14, 17, 18};
        for (int word : words) {
            Refused.none("empty of word " + word, x -> x.type(word, 2, 2), x -> x.empty(0, 10));
        }
        Refused.none("empty(0, 11), where 10 is the last", x -> x.type(10, 2, 2), x -> x.empty(0, 11));
        for (int t : FAR) {
            Refused.none("empty(0, " + t + ")", x -> x.type(10, 2, 2), x -> x.empty(0, t));
        }
    }

    private static void someLeftRight() {
        Due.sentence("promise 9: some, left (side = 0), or right (1), of a type, with what another one has");
        ValueTrees x = new ValueTrees();
        int option = x.type(10, 5, 0);
        int or = x.type(14, 5, 5);
        x.bytes(0, 5, 65, 1);
        Due.is("some", x.wrap(1, option, 0, 0), 8);
        Due.is("left", x.wrap(2, or, 0, 0), 8);
        Due.is("right", x.wrap(3, or, 1, 0), 8);
        int[] types = {option, or, or};
        int[] whichs = {1, 0, 1};
        for (int r = 1; r <= 3; r++) {
            Due.is("typeOf(" + r + ")", x.typeOf(r), types[r - 1]);
            Due.is("which(" + r + ")", x.which(r), whichs[r - 1]);
            x.part(4, r, 0);
            Due.is("what is in it", x.compare(4, 0), 0);
        }
        Due.is("over its own", x.wrap(0, option, 0, 0), 8);
        Due.is("typeOf(0)", x.typeOf(0), option);
    }

    /** Type 10 is an option of int, 11 an or of two ints; register 0 gets an int. */
    private static void anInt(ValueTrees x) {
        x.type(10, 2, 0);
        x.type(14, 2, 2);
        x.number(0, 2, 1);
    }

    private static void sidesOfAlternatives() {
        Due.sentence("promise 9: left (side = 0), or right (1): no other side");
        Refused.none("side -1", EdgesOfMakingTest::anInt, x -> x.wrap(1, 11, -1, 0));
        Refused.none("side 2", EdgesOfMakingTest::anInt, x -> x.wrap(1, 11, 2, 0));
        for (int side : FAR) {
            Refused.none("side " + side, EdgesOfMakingTest::anInt, x -> x.wrap(1, 11, side, 0));
        }
    }

    private static void anOptionOnlyWithSideZero() {
        Due.sentence("promise 9: an option only with side = 0");
        ValueTrees x = new ValueTrees();
        anInt(x);
        Due.is("side 0", x.wrap(1, 10, 0, 0), 4);
        Refused.none("side 1", EdgesOfMakingTest::anInt, y -> y.wrap(1, 10, 1, 0));
        Refused.none("side 2", EdgesOfMakingTest::anInt, y -> y.wrap(1, 10, 2, 0));
        for (int side : FAR) {
            Refused.none("side " + side, EdgesOfMakingTest::anInt, y -> y.wrap(1, 10, side, 0));
        }
    }

    private static void twoSides(ValueTrees x) {
        x.type(10, 2, 0);
        x.type(14, 2, 3);
        x.number(0, 2, 1);
        x.number(1, 3, 1);
        x.empty(2, 10);
    }

    private static void wrapWithWhatAnotherHas() {
        Due.sentence("promise 9: with what another one has: nothing, or what is of another type, is not as it says");
        Refused.none("some of nothing", EdgesOfMakingTest::twoSides, x -> x.wrap(3, 10, 0, 4));
        Refused.none("left of nothing", EdgesOfMakingTest::twoSides, x -> x.wrap(3, 11, 0, 4));
        Refused.none("right of nothing", EdgesOfMakingTest::twoSides, x -> x.wrap(3, 11, 1, 4));
        Refused.none("some of another type", EdgesOfMakingTest::twoSides, x -> x.wrap(3, 10, 0, 1));
        Refused.none("some of its own type", EdgesOfMakingTest::twoSides, x -> x.wrap(3, 10, 0, 2));
        Refused.none("left of the right type", EdgesOfMakingTest::twoSides, x -> x.wrap(3, 11, 0, 1));
        Refused.none("right of the left type", EdgesOfMakingTest::twoSides, x -> x.wrap(3, 11, 1, 0));
        ValueTrees x = new ValueTrees();
        twoSides(x);
        Due.is("left of the left type", x.wrap(3, 11, 0, 0), 4);
        Due.is("right of the right type", x.wrap(3, 11, 1, 1), 4);
    }

    private static void wrapOfOtherTypes() {
        Due.sentence("promise 9: of a type: NONE where it is no option and no or, or no such type");
        for (int word = 11; word <= 18; word++) {
            int w = word;
            if (w != 14) {
                Refused.none("left of word " + w, x -> { x.type(w, 2, 2); x.number(0, 2, 1); }, x -> x.wrap(1, 10, 0, 0));
                Refused.none("right of word " + w, x -> { x.type(w, 2, 2); x.number(0, 2, 1); }, x -> x.wrap(1, 10, 1, 0));
            }
        }
        for (int t = 0; t <= 9; t++) {
            int type = t;
            Refused.none("wrap of type " + type, EdgesOfMakingTest::anInt, x -> x.wrap(1, type, 0, 0));
        }
        Refused.none("wrap of type 12, where 11 is the last", EdgesOfMakingTest::anInt, x -> x.wrap(1, 12, 0, 0));
        for (int t : FAR) {
            Refused.none("wrap of type " + t, EdgesOfMakingTest::anInt, x -> x.wrap(1, t, 0, 0));
            Refused.none("wrap of nothing, of type " + t, EdgesOfMakingTest::anInt, x -> x.wrap(1, t, 0, 5));
        }
    }

    private static void pairOfWhatTwoHave() {
        Due.sentence("promise 10: the pair of what two have: nothing is not as it says");
        ValueTrees x = new ValueTrees();
        x.number(0, 2, 64);
        x.bytes(1, 5, 65, 1);
        Due.is("pair(2, 0, 1)", x.pair(2, 0, 1), 11);
        Due.is("its type", x.typeOf(2), 10);
        x.part(3, 2, 0);
        Due.is("the first", x.compare(3, 0), 0);
        x.part(3, 2, 1);
        Due.is("the second", x.compare(3, 1), 0);
        Due.is("of one twice, over its own", x.pair(0, 0, 0), 8);
        Due.is("its type", x.ofType(x.typeOf(0), 1), 2);
        Refused.none("nothing first", y -> y.number(0, 2, 1), y -> y.pair(1, 2, 0));
        Refused.none("nothing second", y -> y.number(0, 2, 1), y -> y.pair(1, 0, 2));
        Refused.none("nothing twice", y -> y.number(0, 2, 1), y -> y.pair(0, 2, 2));
    }

    /** Register 0 gets a none whose type has 99 parts, 1 one of 100, 2 one of 198, 3 one of 199, 4 one of 200, 5 an int. */
    private static void nonesOfManyParts(ValueTrees x) {
        int[] parts = {99, 100, 198, 199, 200};
        for (int r = 0; r < parts.length; r++) {
            x.empty(r, x.type(10, Make.typeOfParts(x, parts[r] - 1), 0));
        }
        x.number(5, 2, 1);
    }

    private static void pairOfTooManyParts() {
        Due.sentence("promise 10: NONE: also if its type would have too many parts");
        ValueTrees x = new ValueTrees();
        nonesOfManyParts(x);
        Due.is("99 and 100", x.pair(6, 0, 1), 6);
        Due.is("100 and 99", x.pair(6, 1, 0), 6);
        Due.is("198 and 1", x.pair(6, 2, 5), 6);
        Due.is("1 and 198", x.pair(6, 5, 2), 6);
        Refused.none("100 and 100", EdgesOfMakingTest::nonesOfManyParts, y -> y.pair(6, 1, 1));
        Refused.none("199 and 1", EdgesOfMakingTest::nonesOfManyParts, y -> y.pair(5, 3, 5));
        Refused.none("1 and 199", EdgesOfMakingTest::nonesOfManyParts, y -> y.pair(5, 5, 3));
        Refused.none("200 and 200", EdgesOfMakingTest::nonesOfManyParts, y -> y.pair(6, 4, 4));
    }

    /** So many types, which takes more than 512 calls; a pair of unit and bool is none of them. */
    private static ValueTrees withTypes(int count) {
        ValueTrees x = new ValueTrees();
        for (int made = 10; made < count; made++) {
            x.type(18, 2 + (made - 10) / 10, made % 10);
        }
        Due.is("the last type", x.ofType(count - 1, 0), 18);
        Due.is("the next", x.ofType(count, 0), -1);
        x.simple(0, 0);
        x.simple(1, 1);
        x.number(2, 2, 1);
        return x;
    }

    private static void pairOfThe2001stType() {
        Due.sentence("promise 10: FULL: also if that would be the 2001st type");
        ValueTrees x = withTypes(1999);
        Due.is("a pair of the 2000th type", x.pair(3, 0, 1), 6);
        Due.is("its type", x.typeOf(3), 1999);
        Due.is("a pair of the 2001st type", x.pair(3, 1, 0), -2);
        Due.is("typeOf(3) as it was", x.typeOf(3), 1999);
        Due.is("no type was made", x.ofType(2000, 0), -1);
        Due.is("a pair of the 2000th type again", x.pair(4, 0, 1), 6);
        Due.is("NONE comes first", x.pair(4, 1, 9), -1);
        Due.is("NONE comes first, of no register", x.pair(16, 1, 0), -1);
    }

    private static void pairOfATypeThatWasThere() {
        Due.sentence("promise 10: the 2001st type: not where the type was there");
        ValueTrees x = withTypes(2000);
        Due.is("a pair of int and unit", x.pair(3, 2, 0), 6);
        Due.is("its type", x.typeOf(3), 10);
        Due.is("a pair of unit and int", x.pair(3, 0, 2), -2);
        Due.is("typeOf(3) as it was", x.typeOf(3), 10);
    }

    private static void consInFront() {
        Due.sentence("promise 11: a list with what another one has in front");
        ValueTrees x = new ValueTrees();
        int list = x.type(11, 2, 0);
        x.empty(0, list);
        for (int i = 1; i <= 3; i++) {
            x.number(1, 2, i);
            Due.is("cons of " + i, x.cons(0, 1, 0), 5 + 2 * i);
            Due.is("many(0)", x.many(0), i);
            Due.is("typeOf(0)", x.typeOf(0), list);
            x.part(2, 0, 0);
            Due.is("the first", x.digit(2, 0), i);
        }
        x.part(0, 0, 1);
        x.part(0, 0, 1);
        x.part(2, 0, 0);
        Due.is("the last", x.digit(2, 0), 1);
        int outer = x.type(11, list, 0);
        x.empty(3, outer);
        Due.is("an empty list in front", x.cons(3, 3, 3), -1);
        x.empty(4, list);
        Due.is("an empty list in front of none", x.cons(3, 4, 3), 10);
        Due.is("many(3)", x.many(3), 1);
    }

    private static void consOfOthers() {
        Due.sentence("promise 11: a list with what another one has: nothing, another type or no list is not as it says");
        for (int r = 0; r < 16; r++) {
            int other = r;
            if (other != 3) {
                Refused.none("cons(15, " + other + ", 10)", Make::oneOfEach, x -> x.cons(15, other, 10));
            }
            if (other != 10) {
                Refused.none("cons(15, 3, " + other + ")", Make::oneOfEach, x -> x.cons(15, 3, other));
            }
        }
        Refused.none("a nat in front of ints", x -> { Make.oneOfEach(x); x.number(14, 3, 1); }, x -> x.cons(15, 14, 10));
    }

    private static void putsAKey() {
        Due.sentence("promise 12: a set, map or big_map with a key (and a value, for these)");
        int[] words = {12, 15, 16};
        long[] keys = {0, 5, -5, 2, Long.MIN_VALUE, 9};
        for (int word : words) {
            ValueTrees x = new ValueTrees();
            x.empty(0, x.type(word, 8, 5));
            for (int i = 0; i < keys.length; i++) {
                x.number(1, 8, keys[i]);
                x.bytes(2, 5, i, 1);
                int old = x.length(0);
                int more = word == 12 ? x.length(1) : 2 + x.length(1) + 6;
                Due.is("put of " + keys[i], x.put(0, 0, 1, 2), old + more);
                Due.is("has it", x.has(0, 1), 1);
                Due.is("many(0)", x.many(0), i + 1);
            }
            for (int i = 0; i < keys.length && word != 12; i++) {
                x.number(1, 8, keys[i]);
                x.get(3, 0, 1);
                Due.is("the value of " + keys[i], x.byteAt(3, 0), i);
            }
        }
    }

    private static void putInPlaceOfWhatWasThere() {
        Due.sentence("promise 12: in place of what was there for it");
        for (int word = 15; word <= 16; word++) {
            for (long key = -1; key <= 1; key++) {
                ValueTrees x = new ValueTrees();
                x.empty(0, x.type(word, 2, 5));
                x.bytes(2, 5, 7, 4);
                for (int k = -1; k <= 1; k++) {
                    x.number(1, 2, k);
                    x.put(0, 0, 1, 2);
                }
                x.number(1, 2, key);
                x.bytes(2, 5, 8, 0);
                Due.is("a shorter value", x.put(3, 0, 1, 2), 44 - 4);
                x.bytes(2, 5, 9, 8);
                Due.is("a longer value", x.put(3, 0, 1, 2), 44 + 4);
                Due.is("many(3)", x.many(3), 3);
                for (int k = -1; k <= 1; k++) {
                    Due.is("key " + k, x.at(4, 3, k + 1, 0), 2);
                    Due.is("its digit", x.digit(4, 0), Math.abs(k));
                    x.at(5, 3, k + 1, 1);
                    Due.is("its value", x.byteAt(5, 0), k == key ? 9 : 7);
                }
            }
        }
        ValueTrees y = new ValueTrees();
        y.empty(0, y.type(12, 2, 0));
        y.number(1, 2, 64);
        Due.is("a set's key", y.put(0, 0, 1, 0), 8);
        Due.is("a set's key again", y.put(0, 0, 1, 0), 8);
        Due.is("many(0)", y.many(0), 1);
    }

    private static void putDoesNotLookForASet() {
        Due.sentence("promise 12: (and a value, for these; for a set that is not looked at)");
        for (int value : Make.NO_REGISTERS) {
            ValueTrees x = Make.oneOfEach();
            x.number(3, 2, 5);
            Due.is("put(11, 11, 3, " + value + ")", x.put(11, 11, 3, value), 9);
        }
        for (int value = 0; value < 16; value++) {
            ValueTrees x = Make.oneOfEach();
            x.number(3, 2, 5);
            Due.is("put(11, 11, 3, " + value + ")", x.put(11, 11, 3, value), 9);
        }
    }

    private static void putLooksForAMap() {
        Due.sentence("promise 12: and a value, for these: nothing or one of another type is not as it says");
        for (int tree = 12; tree <= 13; tree++) {
            int t = tree;
            for (int value = 0; value < 16; value++) {
                int v = value;
                if (v == 3) {
                    Due.is("put(15, " + t + ", 3, 3)", Make.oneOfEach().put(15, t, 3, 3), 11);
                } else {
                    Refused.none("put(15, " + t + ", 3, " + v + ")", Make::oneOfEach, x -> x.put(15, t, 3, v));
                }
            }
            for (int v : Make.NO_REGISTERS) {
                Refused.none("put(15, " + t + ", 3, " + v + ")", Make::oneOfEach, x -> x.put(15, t, 3, v));
            }
        }
    }

    private static void putOfOthers() {
        Due.sentence("promise 12: a set, map or big_map with a key: no such tree or a key of another type is not as it says");
        for (int r = 0; r < 16; r++) {
            int other = r;
            for (int t = 11; t <= 13 && other != 3; t++) {
                int tree = t;
                Refused.none("put(15, " + tree + ", " + other + ", 3)", Make::oneOfEach, x -> x.put(15, tree, other, 3));
            }
            if (other < 11 || other > 13) {
                Refused.none("put(15, " + other + ", 3, 3)", Make::oneOfEach, x -> x.put(15, other, 3, 3));
            }
        }
    }

    /** Register 0 gets a set, map or big_map with the keys 1, 2, 3; the answer is what each adds to its length. */
    private static int tree(ValueTrees x, int word) {
        x.empty(0, x.type(word, 2, 2));
        for (int k = 1; k <= 3; k++) {
            x.number(1, 2, k);
            x.put(0, 0, 1, 1);
        }
        return word == 12 ? 2 : 6;
    }

    private static void removeBeItThere() {
        Due.sentence("promise 13: without a key, be it there");
        int[] words = {12, 15, 16};
        for (int word : words) {
            for (int key = 1; key <= 3; key++) {
                ValueTrees x = new ValueTrees();
                int each = tree(x, word);
                x.number(1, 2, key);
                Due.is("remove of " + key, x.remove(2, 0, 1), 5 + 2 * each);
                Due.is("has(2, 1)", x.has(2, 1), 0);
                Due.is("many(2)", x.many(2), 2);
                Due.is("typeOf(2)", x.typeOf(2), x.typeOf(0));
                for (int k = 1; k <= 3; k++) {
                    x.number(1, 2, k);
                    Due.is("has it " + k, x.has(2, 1), k == key ? 0 : 1);
                }
            }
            ValueTrees x = new ValueTrees();
            tree(x, word);
            for (int k = 3; k >= 1; k--) {
                x.number(1, 2, k);
                x.remove(0, 0, 1);
                Due.is("many(0)", x.many(0), k - 1);
            }
            Due.is("length(0)", x.length(0), 5);
        }
    }

    private static void removeOrNot() {
        Due.sentence("promise 13: without a key, be it there or not");
        int[] words = {12, 15, 16};
        long[] others = {0, 4, -1, -2, Long.MIN_VALUE, Long.MAX_VALUE};
        for (int word : words) {
            for (long key : others) {
                ValueTrees x = new ValueTrees();
                int each = tree(x, word);
                x.number(1, 2, key);
                Due.is("remove of " + key, x.remove(2, 0, 1), 5 + 3 * each);
                Due.is("many(2)", x.many(2), 3);
                Due.is("typeOf(2)", x.typeOf(2), x.typeOf(0));
            }
            ValueTrees x = new ValueTrees();
            x.empty(0, x.type(word, 2, 2));
            x.number(1, 2, 1);
            Due.is("remove from an empty one", x.remove(2, 0, 1), 5);
            Due.is("many(2)", x.many(2), 0);
            Due.is("typeOf(2)", x.typeOf(2), x.typeOf(0));
        }
    }

    private static void removeOfOthers() {
        Due.sentence("promise 13: a set, map or big_map without a key: no such tree or a key of another type is not as it says");
        for (int r = 0; r < 16; r++) {
            int other = r;
            for (int t = 11; t <= 13 && other != 3; t++) {
                int tree = t;
                Refused.none("remove(15, " + tree + ", " + other + ")", Make::oneOfEach, x -> x.remove(15, tree, other));
            }
            if (other < 11 || other > 13) {
                Refused.none("remove(15, " + other + ", 3)", Make::oneOfEach, x -> x.remove(15, other, 3));
            }
        }
    }

    private static void noSuchRegisters() {
        Due.sentence("promises 4 to 13: Register r, another one: one that is no register is not as they say");
        for (int r : Make.NO_REGISTERS) {
            Refused.Call[] calls = {
                x -> x.number(r, 2, 1), x -> x.times(r, 3, 1), x -> x.times(15, r, 1), x -> x.bytes(r, 5, 1, 1),
                x -> x.simple(r, 0), x -> x.empty(r, 10), x -> x.wrap(r, 10, 0, 3), x -> x.wrap(15, 10, 0, r),
                x -> x.wrap(r, 11, 1, 3), x -> x.wrap(15, 11, 1, r), x -> x.pair(r, 3, 4), x -> x.pair(15, r, 3),
                x -> x.pair(15, 3, r), x -> x.cons(r, 3, 10), x -> x.cons(15, r, 10), x -> x.cons(15, 3, r),
                x -> x.put(r, 11, 3, 3), x -> x.put(15, r, 3, 3), x -> x.put(15, 11, r, 3), x -> x.put(r, 12, 3, 3),
                x -> x.put(15, 12, 3, r), x -> x.remove(r, 11, 3), x -> x.remove(15, r, 3), x -> x.remove(15, 11, r),
            };
            for (int i = 0; i < calls.length; i++) {
                Refused.none("call " + i + " with register " + r, Make::oneOfEach, calls[i]);
            }
        }
    }
}
