/** Promises 1 to 3, and what the terms say of types: a test for each sentence that names an edge. */
public final class EdgesOfTypesTest {
    private static final int[] KEYED = {12, 15, 16};
    private static final int[] NOT_KEYED = {10, 11, 13, 14, 17, 18};
    private static final int[] FAR = {Integer.MIN_VALUE, Integer.MIN_VALUE + 2, -256, -1, 256, 65538, Integer.MAX_VALUE};

    public static void main(String[] args) {
        nothingInAnyRegister();
        tenTypes();
        numbersAsTheyAreMade();
        theTenAreTheirOwnWords();
        wordsWithOneTypeAndWithTwo();
        partsAreCountedEachTime();
        twoHundredPartsAtMost();
        comparableOnes();
        keysMustBeComparable();
        dataOnes();
        storableOnes();
        wordsFromTenToEighteen();
        rightIsOfNoMatter();
        aNewOneIfThereWasNoneSuch();
        noSuchLeftType();
        noSuchRightType();
        twoThousandTypes();
        noneBeforeFullOfTypes();
        wordLeftAndRight();
        noneWhereItHasNone();
        sumsOfMarks();
        ofNoSuchType();
        anotherWhat();
        Due.end();
    }

    private static void nothingInAnyRegister() {
        Due.sentence("promise 1: Nothing in any register");
        ValueTrees x = new ValueTrees();
        for (int r = 0; r < 16; r++) {
            Due.is("typeOf(" + r + ")", x.typeOf(r), -1);
            Due.is("length(" + r + ")", x.length(r), -1);
            Due.is("which(" + r + ")", x.which(r), -1);
            Due.is("many(" + r + ")", x.many(r), -1);
            Due.is("digit(" + r + ", 0)", x.digit(r, 0), -1);
            Due.no("isBelow(" + r + ")", x.isBelow(r));
            Due.is("byteAt(" + r + ", 0)", x.byteAt(r, 0), -1);
            Due.is("has(" + r + ", " + r + ")", x.has(r, r), -1);
            Due.is("compare(" + r + ", " + r + ")", x.compare(r, r), 2);
        }
    }

    private static void tenTypes() {
        Due.sentence("promise 1: ten types");
        ValueTrees x = new ValueTrees();
        Due.is("ofType(-1, 0)", x.ofType(-1, 0), -1);
        Due.is("ofType(0, 0)", x.ofType(0, 0), 0);
        Due.is("ofType(9, 0)", x.ofType(9, 0), 9);
        Due.is("ofType(10, 0)", x.ofType(10, 0), -1);
        Due.is("the first new one", x.type(13, 9, 0), 10);
    }

    private static void numbersAsTheyAreMade() {
        Due.sentence("terms: TYPES have numbers, as they are made");
        ValueTrees x = new ValueTrees();
        Due.is("the first", x.type(18, 0, 0), 10);
        Due.is("a refused one takes no number", x.type(12, 9, 0), -1);
        Due.is("one that was there takes none", x.type(18, 0, 0), 10);
        Due.is("the second", x.type(10, 10, 0), 11);
        x.simple(0, 0);
        x.simple(1, 1);
        Due.is("a pair of a type that was there", x.pair(2, 0, 0), 6);
        Due.is("its type", x.typeOf(2), 10);
        Due.is("a pair of a new type", x.pair(3, 0, 1), 6);
        Due.is("its type", x.typeOf(3), 12);
        Due.is("the next", x.type(11, 12, 0), 13);
    }

    private static void theTenAreTheirOwnWords() {
        Due.sentence("terms: There are from the beginning: 0 unit .. 9 operation, with these numbers as their WORDS");
        ValueTrees x = new ValueTrees();
        for (int t = 0; t <= 9; t++) {
            Due.is("ofType(" + t + ", 0)", x.ofType(t, 0), t);
            Due.is("type(" + t + ", 0, 0) makes none", x.type(t, 0, 0), -1);
        }
    }

    private static void wordsWithOneTypeAndWithTwo() {
        Due.sentence("terms: 10 option .. 13 contract, and one type, or 14 or .. 18 pair, and two");
        for (int word = 10; word <= 18; word++) {
            ValueTrees x = new ValueTrees();
            Due.is("type(" + word + ", 3, 4)", x.type(word, 3, 4), 10);
            Due.is("its left one", x.ofType(10, 1), 3);
            Due.is("its right one", x.ofType(10, 2), word <= 13 ? -1 : 4);
            Due.is("type(" + word + ", 3, 99)", x.type(word, 3, 99), word <= 13 ? 10 : -1);
        }
    }

    private static void partsAreCountedEachTime() {
        Due.sentence("terms: PARTS of a type: itself, and those of its types, each time they are in it");
        ValueTrees x = new ValueTrees();
        int t = 2;
        for (int parts = 3; parts <= 127; parts = 2 * parts + 1) {
            t = x.type(18, t, t);
        }
        Due.is("a pair of 127 parts was the sixth", t, 15);
        Due.is("127 twice and itself are 255", x.type(18, t, t), -1);
        Due.is("127, 63 and itself are 191", x.type(18, t, t - 1), 16);
        Due.is("191, 7 and itself are 199", x.type(18, 16, 11), 17);
        Due.is("199 and itself are 200", x.type(10, 17, 0), 18);
        Due.is("200 and itself are 201", x.type(10, 18, 0), -1);
        Due.is("191, 7 and itself are 199 the other way", x.type(18, 11, 16), 19);
        Due.is("199, 1 and itself are 201", x.type(18, 19, 2), -1);
    }

    private static void twoHundredPartsAtMost() {
        Due.sentence("terms: 200 at most; promise 2: NONE: more than 200 parts");
        for (int word = 10; word <= 18; word++) {
            ValueTrees x = new ValueTrees();
            int t198 = Make.typeOfParts(x, 198);
            int t199 = Make.typeOfParts(x, 199);
            int t200 = Make.typeOfParts(x, 200);
            int next = x.type(17, 9, 9) + 1;
            Due.is("word " + word + " with 199 or 198 and 1", x.type(word, word <= 13 ? t199 : t198, 2), next);
            Due.is("word " + word + " with 200 or 199 and 1", x.type(word, word <= 13 ? t200 : t199, 2), -1);
            if (word >= 14) {
                Due.is("word " + word + " with 1 and 198", x.type(word, 2, t198), next + 1);
                Due.is("word " + word + " with 1 and 199", x.type(word, 2, t199), -1);
                Due.is("word " + word + " with 200 and 200", x.type(word, t200, t200), -1);
            }
        }
        Refused.none("a list of 200 parts", x -> Make.typeOfParts(x, 200), x -> x.type(11, Make.typeOfParts(x, 200), 0));
    }

    private static void comparableOnes() {
        Due.sentence("terms: COMPARABLE are 0 .. 8, and option, or, pair of comparable ones");
        ValueTrees x = new ValueTrees();
        for (int t = 0; t <= 9; t++) {
            Due.is("ofType(" + t + ", 3) & 1", x.ofType(t, 3) & 1, t <= 8 ? 1 : 0);
        }
        for (int word = 10; word <= 18; word++) {
            int t = x.type(word, 8, 7);
            Due.is("word " + word + " of comparable ones", x.ofType(t, 3) & 1, word == 10 || word == 14 || word == 18 ? 1 : 0);
        }
        int[] two = {14, 18};
        for (int word : two) {
            Due.is("word " + word + ", left not", x.ofType(x.type(word, 9, 8), 3) & 1, 0);
            Due.is("word " + word + ", right not", x.ofType(x.type(word, 8, 9), 3) & 1, 0);
            Due.is("word " + word + ", both not", x.ofType(x.type(word, 9, 9), 3) & 1, 0);
        }
        Due.is("option of operation", x.ofType(x.type(10, 9, 0), 3) & 1, 0);
        Due.is("option of an option", x.ofType(x.type(10, x.type(10, 0, 0), 0), 3) & 1, 1);
        Due.is("option of an option of a list", x.ofType(x.type(10, x.type(10, x.type(11, 0, 0), 0), 0), 3) & 1, 0);
    }

    private static void keysMustBeComparable() {
        Due.sentence("terms: the left one of set, map, big_map must be such; promise 2: NONE: the left one is not comparable");
        for (int word : KEYED) {
            for (int t = 0; t <= 8; t++) {
                Due.is("type(" + word + ", " + t + ", 9)", new ValueTrees().type(word, t, 9), 10);
            }
            Refused.none("type(" + word + ", 9, 0)", x -> { }, x -> x.type(word, 9, 0));
            for (int inside = 11; inside <= 17; inside += inside == 13 ? 2 : 1) {
                int in = inside;
                Refused.none("word " + word + " of word " + in, x -> x.type(in, 0, 0), x -> x.type(word, 10, 0));
            }
            Refused.none("word " + word + " of a pair with an operation", x -> x.type(18, 0, 9), x -> x.type(word, 10, 0));
        }
        for (int word : NOT_KEYED) {
            Due.is("type(" + word + ", 9, 0)", new ValueTrees().type(word, 9, 0), 10);
        }
    }

    private static void dataOnes() {
        Due.sentence("terms: DATA are those in which there is none of the words 9, 13, 16, 17");
        ValueTrees x = new ValueTrees();
        int[] foreign = {9, x.type(13, 0, 0), x.type(16, 0, 0), x.type(17, 0, 0)};
        for (int t : foreign) {
            Due.is("ofType(" + t + ", 3) & 2", x.ofType(t, 3) & 2, 0);
            for (int word = 10; word <= 18; word++) {
                int holds = x.type(word, 0, t);
                if (word >= 14) {
                    Due.is("word " + word + " with " + t + " right", x.ofType(holds, 3) & 2, 0);
                }
                if (word < 12 || word == 13 || word == 14 || word >= 17) {
                    Due.is("word " + word + " with " + t + " left", x.ofType(x.type(word, t, 0), 3) & 2, 0);
                }
            }
        }
        for (int t = 0; t <= 8; t++) {
            Due.is("ofType(" + t + ", 3) & 2", x.ofType(t, 3) & 2, 2);
        }
        for (int word = 10; word <= 18; word++) {
            boolean data = word != 13 && word != 16 && word != 17;
            Due.is("word " + word, x.ofType(x.type(word, 8, 8), 3) & 2, data ? 2 : 0);
        }
    }

    private static void storable(ValueTrees x, String what, int t, int want) {
        Due.yes(what + " is a type", t >= 0);
        Due.is(what, (x.ofType(t, 3) & 4) / 4, want);
    }

    private static void storableOnes() {
        Due.sentence("terms: STORABLE are data; big_map, the right one being data; pair of two storable ones");
        ValueTrees x = new ValueTrees();
        int list = x.type(11, 3, 0);
        int big = x.type(16, 2, list);
        int both = x.type(18, big, big);
        storable(x, "unit", 0, 1);
        storable(x, "timestamp", 8, 1);
        storable(x, "operation", 9, 0);
        storable(x, "a list", list, 1);
        storable(x, "big_map to a list", big, 1);
        storable(x, "big_map to operation", x.type(16, 2, 9), 0);
        storable(x, "big_map to a storable one that is no data", x.type(16, 2, big), 0);
        storable(x, "pair of two big_maps", both, 1);
        storable(x, "pair of such a pair and data", x.type(18, both, list), 1);
        storable(x, "pair of data and such a pair", x.type(18, list, both), 1);
        storable(x, "pair of big_map and operation", x.type(18, big, 9), 0);
        storable(x, "pair of operation and big_map", x.type(18, 9, big), 0);
        for (int word = 10; word <= 17; word++) {
            boolean keyed = word == 12 || word == 15 || word == 16;
            int t = x.type(word, keyed ? 2 : big, word == 12 ? 0 : big);
            storable(x, "word " + word + " with a big_map", t, word == 12 ? 1 : 0);
        }
        storable(x, "or with a big_map left", x.type(14, big, 0), 0);
        storable(x, "or with a big_map right", x.type(14, 0, big), 0);
        storable(x, "contract", x.type(13, 0, 0), 0);
        storable(x, "lambda", x.type(17, 0, 0), 0);
    }

    private static void wordsFromTenToEighteen() {
        Due.sentence("promise 2: a type of a word 10 .. 18; NONE: no such word");
        Due.is("type(10, 2, 2)", new ValueTrees().type(10, 2, 2), 10);
        Due.is("type(18, 2, 2)", new ValueTrees().type(18, 2, 2), 10);
        Refused.none("type(9, 2, 2)", x -> { }, x -> x.type(9, 2, 2));
        Refused.none("type(19, 2, 2)", x -> { }, x -> x.type(19, 2, 2));
        Refused.none("type(0, 2, 2)", x -> { }, x -> x.type(0, 2, 2));
        for (int word : FAR) {
            Refused.none("type(" + word + ", 2, 2)", x -> { }, x -> x.type(word, 2, 2));
        }
        Refused.none("type(266, 2, 2)", x -> { }, x -> x.type(10 + 256, 2, 2));
    }

    private static void rightIsOfNoMatter() {
        Due.sentence("promise 2: right is of no matter for those of one type");
        for (int word = 10; word <= 13; word++) {
            ValueTrees x = new ValueTrees();
            Due.is("type(" + word + ", 2, 2)", x.type(word, 2, 2), 10);
            Due.is("type(" + word + ", 2, 10)", x.type(word, 2, 10), 10);
            Due.is("type(" + word + ", 2, 11)", x.type(word, 2, 11), 10);
            for (int right : FAR) {
                Due.is("type(" + word + ", 2, " + right + ")", x.type(word, 2, right), 10);
                Due.is("type(" + word + ", 3, " + right + ") first", new ValueTrees().type(word, 3, right), 10);
            }
            int most = Make.typeOfParts(x, 200);
            Due.is("type(" + word + ", 2, one of 200 parts)", x.type(word, 2, most), 10);
            Due.is("its right one", x.ofType(10, 2), -1);
        }
    }

    private static void aNewOneIfThereWasNoneSuch() {
        Due.sentence("promise 2: a new one, if there was none such");
        ValueTrees x = new ValueTrees();
        Due.is("pair int nat", x.type(18, 2, 3), 10);
        Due.is("pair nat int", x.type(18, 3, 2), 11);
        Due.is("pair int int", x.type(18, 2, 2), 12);
        Due.is("or int nat", x.type(14, 2, 3), 13);
        Due.is("map int nat", x.type(15, 2, 3), 14);
        Due.is("big_map int nat", x.type(16, 2, 3), 15);
        Due.is("option int", x.type(10, 2, 3), 16);
        Due.is("option nat", x.type(10, 3, 2), 17);
        Due.is("pair int nat, the first, again", x.type(18, 2, 3), 10);
        Due.is("option nat, the last, again", x.type(10, 3, 3), 17);
        Due.is("none was made", x.ofType(18, 0), -1);
    }

    private static void noSuchLeftType() {
        Due.sentence("promise 2: NONE: no such types, the left one");
        for (int word = 10; word <= 18; word++) {
            int w = word;
            Due.is("type(" + w + ", 0, 0)", new ValueTrees().type(w, 0, 0), 10);
            Refused.none("type(" + w + ", -1, 0)", x -> { }, x -> x.type(w, -1, 0));
            Refused.none("type(" + w + ", 10, 0)", x -> { }, x -> x.type(w, 10, 0));
            Refused.none("type(" + w + ", 11, 0)", x -> x.type(10, 2, 0), x -> x.type(w, 11, 0));
            for (int left : FAR) {
                Refused.none("type(" + w + ", " + left + ", 0)", x -> { }, x -> x.type(w, left, 0));
            }
            ValueTrees y = new ValueTrees();
            y.type(10, 5, 0);
            Due.is("type(" + w + ", 10, 0), when it is there", y.type(w, 10, 0), 11);
        }
    }

    private static void noSuchRightType() {
        Due.sentence("promise 2: NONE: no such types, the right one");
        for (int word = 14; word <= 18; word++) {
            int w = word;
            Due.is("type(" + w + ", 0, 9)", new ValueTrees().type(w, 0, 9), 10);
            Refused.none("type(" + w + ", 0, -1)", x -> { }, x -> x.type(w, 0, -1));
            Refused.none("type(" + w + ", 0, 10)", x -> { }, x -> x.type(w, 0, 10));
            for (int right : FAR) {
                Refused.none("type(" + w + ", 0, " + right + ")", x -> { }, x -> x.type(w, 0, right));
            }
            ValueTrees y = new ValueTrees();
            y.type(10, 5, 0);
            Due.is("type(" + w + ", 0, 10), when it is there", y.type(w, 0, 10), 11);
        }
    }

    /** All pairs of the first types; the last left of an object's 512 calls lie far behind, but the rule is the document's. */
    private static ValueTrees withTypes(int count) {
        ValueTrees x = new ValueTrees();
        for (int made = 10; made < count; made++) {
            x.type(18, (made - 10) / 10, made % 10);
        }
        Due.is("the last type", x.ofType(count - 1, 0), 18);
        Due.is("the next", x.ofType(count, 0), -1);
        return x;
    }

    private static void twoThousandTypes() {
        Due.sentence("promise 2: FULL: there are 2000 types, and it would be new");
        ValueTrees x = withTypes(1999);
        Due.is("the 2000th", x.type(17, 0, 0), 1999);
        Due.is("the 2001st", x.type(17, 0, 1), -2);
        Due.is("the 2001st again", x.type(10, 1, 0), -2);
        Due.is("the first that was made", x.type(18, 0, 0), 10);
        Due.is("the last that was made", x.type(17, 0, 0), 1999);
        Due.is("none was made", x.ofType(2000, 0), -1);
    }

    private static void noneBeforeFullOfTypes() {
        Due.sentence("terms: NONE when something is not as they say (first), or FULL: of types");
        ValueTrees x = withTypes(2000);
        Due.is("no such word", x.type(19, 0, 0), -1);
        Due.is("no such left one", x.type(10, 2000, 0), -1);
        Due.is("no such right one", x.type(17, 0, 2000), -1);
        Due.is("a key not comparable", x.type(12, 9, 0), -1);
        Due.is("one that is right", x.type(12, 8, 0), -2);
    }

    private static void wordLeftAndRight() {
        Due.sentence("promise 3: what = 0 its word, 1 its left type, 2 its right one");
        ValueTrees x = new ValueTrees();
        int t = x.type(15, 0, 9);
        int u = x.type(18, t, 8);
        Due.is("word of the first", x.ofType(t, 0), 15);
        Due.is("left of the first", x.ofType(t, 1), 0);
        Due.is("right of the first", x.ofType(t, 2), 9);
        Due.is("word of the last", x.ofType(u, 0), 18);
        Due.is("left of the last", x.ofType(u, 1), t);
        Due.is("right of the last", x.ofType(u, 2), 8);
    }

    private static void noneWhereItHasNone() {
        Due.sentence("promise 3: NONE where it has none");
        ValueTrees x = new ValueTrees();
        for (int t = 0; t <= 9; t++) {
            Due.is("ofType(" + t + ", 1)", x.ofType(t, 1), -1);
            Due.is("ofType(" + t + ", 2)", x.ofType(t, 2), -1);
        }
        for (int word = 10; word <= 13; word++) {
            int t = x.type(word, 0, 0);
            Due.is("left one of word " + word, x.ofType(t, 1), 0);
            Due.is("right one of word " + word, x.ofType(t, 2), -1);
        }
    }

    private static void sumsOfMarks() {
        Due.sentence("promise 3: 3: 1 for comparable, and 2 for data, and 4 for storable");
        ValueTrees x = new ValueTrees();
        Due.is("none of the three", x.ofType(9, 3), 0);
        Due.is("storable alone", x.ofType(x.type(16, 0, 0), 3), 4);
        Due.is("data and storable", x.ofType(x.type(15, 0, 0), 3), 6);
        Due.is("all three", x.ofType(x.type(18, 0, 8), 3), 7);
        Due.is("all three, from the beginning", x.ofType(0, 3), 7);
    }

    private static void ofNoSuchType() {
        Due.sentence("promise 3: NONE: no such type");
        ValueTrees x = new ValueTrees();
        x.type(18, 2, 2);
        for (int what = 0; what <= 3; what++) {
            Due.yes("ofType(10, " + what + ")", x.ofType(10, what) != -1);
            Due.is("ofType(11, " + what + ")", x.ofType(11, what), -1);
            Due.is("ofType(-1, " + what + ")", x.ofType(-1, what), -1);
            for (int t : FAR) {
                Due.is("ofType(" + t + ", " + what + ")", x.ofType(t, what), -1);
            }
        }
    }

    private static void anotherWhat() {
        Due.sentence("promise 3: NONE: another what");
        ValueTrees x = new ValueTrees();
        x.type(18, 2, 2);
        for (int t = 0; t <= 10; t++) {
            Due.is("ofType(" + t + ", -1)", x.ofType(t, -1), -1);
            Due.is("ofType(" + t + ", 4)", x.ofType(t, 4), -1);
            for (int what : FAR) {
                Due.is("ofType(" + t + ", " + what + ")", x.ofType(t, what), -1);
            }
        }
    }
}
