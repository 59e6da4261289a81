/** Promises 2 and 3: type, ofType. */
public final class TypesTest {
    public static void main(String[] args) {
        numbersGoUpAndAreFoundAgain();
        rightIsOfNoMatterForOneType();
        wrongWordsAndTypes();
        leftOnesThatMustBeComparable();
        atMostTwoHundredParts();
        noneChangesNothing();
        partsOfOfType();
        marksOfTheTen();
        marksOfMadeOnes();
        atMostTwoThousandTypes();
        Due.end();
    }

    private static void numbersGoUpAndAreFoundAgain() {
        ValueTrees x = new ValueTrees();
        for (int word = 10; word <= 18; word++) {
            Due.is("type(" + word + ", 2, 3)", x.type(word, 2, 3), word);
        }
        for (int word = 18; word >= 10; word--) {
            Due.is("again type(" + word + ", 2, 3)", x.type(word, 2, 3), word);
        }
        Due.is("type(18, 3, 2)", x.type(18, 3, 2), 19);
        Due.is("type(18, 2, 2)", x.type(18, 2, 2), 20);
        Due.is("type(15, 2, 3)", x.type(15, 2, 3), 15);
    }

    private static void rightIsOfNoMatterForOneType() {
        ValueTrees x = new ValueTrees();
        int[] rights = {0, 9, 10, -1, -2, 99999, Integer.MIN_VALUE, Integer.MAX_VALUE};
        for (int word = 10; word <= 13; word++) {
            for (int right : rights) {
                Due.is("type(" + word + ", 5, " + right + ")", x.type(word, 5, right), word);
            }
        }
    }

    private static void wrongWordsAndTypes() {
        ValueTrees x = new ValueTrees();
        int[] words = {Integer.MIN_VALUE, -1, 0, 1, 8, 9, 19, 20, Integer.MAX_VALUE};
        for (int word : words) {
            Due.is("type(" + word + ", 2, 2)", x.type(word, 2, 2), -1);
        }
        int[] wrong = {Integer.MIN_VALUE, -2, -1, 10, 11, 2000, Integer.MAX_VALUE};
        for (int word = 10; word <= 18; word++) {
            for (int t : wrong) {
                Due.is("type(" + word + ", " + t + ", 2)", x.type(word, t, 2), -1);
                if (word >= 14) {
                    Due.is("type(" + word + ", 2, " + t + ")", x.type(word, 2, t), -1);
                }
            }
        }
        Due.is("the first that is right", x.type(10, 2, 2), 10);
    }

    private static void leftOnesThatMustBeComparable() {
        ValueTrees x = new ValueTrees();
        int list = x.type(11, 2, 0);
        int optionOfList = x.type(10, list, 0);
        int option = x.type(10, 2, 0);
        int[] keyed = {12, 15, 16};
        for (int word : keyed) {
            for (int t = 0; t <= 8; t++) {
                Due.yes("type(" + word + ", " + t + ", 0) is one", x.type(word, t, 0) >= 10);
            }
            Due.is("operation as key of " + word, x.type(word, 9, 0), -1);
            Due.is("list as key of " + word, x.type(word, list, 0), -1);
            Due.is("option of list as key of " + word, x.type(word, optionOfList, 0), -1);
            Due.yes("option as key of " + word, x.type(word, option, 0) >= 10);
        }
        int[] free = {10, 11, 13, 14, 17, 18};
        for (int word : free) {
            Due.yes("operation in " + word, x.type(word, 9, 9) >= 10);
            Due.yes("list in " + word, x.type(word, list, list) >= 10);
        }
        Due.yes("list as value of a map", x.type(15, 2, list) >= 10);
        Due.yes("operation as value of a big_map", x.type(16, 2, 9) >= 10);
    }

    private static void atMostTwoHundredParts() {
        ValueTrees x = new ValueTrees();
        int t = 2;
        for (int parts = 2; parts <= 200; parts++) {
            t = x.type(11, t, 0);
            Due.is("list of " + parts + " parts", t, parts + 8);
        }
        for (int word = 10; word <= 13; word++) {
            Due.is("201 parts of word " + word, x.type(word, t, 0), -1);
        }
        Due.is("201 parts of an option", x.type(10, 208, 0), -1);
        Due.is("200 parts of an option", x.type(10, 207, 0), 209);
        // Type 9 + k is a list of 1 + k parts; a pair adds one to both its types.
        Due.is("pair of 199 and 1", x.type(18, 207, 2), -1);
        Due.is("pair of 198 and 1", x.type(18, 206, 2), 210);
        Due.is("or of 1 and 199", x.type(14, 2, 207), -1);
        Due.is("or of 1 and 198", x.type(14, 2, 206), 211);
        Due.is("lambda of 100 and 100", x.type(17, 108, 108), -1);
        Due.is("lambda of 100 and 99", x.type(17, 108, 107), 212);
        Due.is("map of 1 and 199", x.type(15, 2, 207), -1);
        Due.is("map of 1 and 198", x.type(15, 2, 206), 213);
    }

    private static void noneChangesNothing() {
        ValueTrees x = new ValueTrees();
        x.type(9, 2, 2);
        x.type(12, 9, 0);
        x.type(18, 2, 10);
        Due.is("ofType(10, 0)", x.ofType(10, 0), -1);
        Due.is("type(14, 0, 1)", x.type(14, 0, 1), 10);
    }

    private static void partsOfOfType() {
        ValueTrees x = new ValueTrees();
        for (int t = 0; t < 10; t++) {
            Due.is("word of " + t, x.ofType(t, 0), t);
            Due.is("left of " + t, x.ofType(t, 1), -1);
            Due.is("right of " + t, x.ofType(t, 2), -1);
        }
        for (int word = 10; word <= 18; word++) {
            int t = x.type(word, 5, 7);
            Due.is("word of " + t, x.ofType(t, 0), word);
            Due.is("left of " + t, x.ofType(t, 1), 5);
            Due.is("right of " + t, x.ofType(t, 2), word <= 13 ? -1 : 7);
        }
        int[] whats = {Integer.MIN_VALUE, -1, 4, 5, Integer.MAX_VALUE};
        for (int what : whats) {
            Due.is("ofType(2, " + what + ")", x.ofType(2, what), -1);
            Due.is("ofType(18, " + what + ")", x.ofType(18, what), -1);
        }
        int[] wrong = {Integer.MIN_VALUE, -1, 19, Integer.MAX_VALUE};
        for (int t : wrong) {
            for (int what = 0; what <= 3; what++) {
                Due.is("ofType(" + t + ", " + what + ")", x.ofType(t, what), -1);
            }
        }
    }

    private static void marksOfTheTen() {
        ValueTrees x = new ValueTrees();
        for (int t = 0; t <= 8; t++) {
            Due.is("ofType(" + t + ", 3)", x.ofType(t, 3), 7);
        }
        Due.is("ofType(9, 3)", x.ofType(9, 3), 0);
    }

    private static void marks(ValueTrees x, String what, int word, int left, int right, int want) {
        int t = x.type(word, left, right);
        Due.yes(what + " is a type", t >= 0);
        Due.is(what + ": ofType(" + t + ", 3)", x.ofType(t, 3), want);
    }

    private static void marksOfMadeOnes() {
        ValueTrees x = new ValueTrees();
        marks(x, "option int", 10, 2, 0, 7);
        marks(x, "list int", 11, 2, 0, 6);
        marks(x, "set int", 12, 2, 0, 6);
        marks(x, "contract int", 13, 2, 0, 0);
        marks(x, "or int string", 14, 2, 5, 7);
        marks(x, "map int string", 15, 2, 5, 6);
        marks(x, "big_map int string", 16, 2, 5, 4);
        marks(x, "lambda int string", 17, 2, 5, 0);
        marks(x, "pair int string", 18, 2, 5, 7);
        int list = x.type(11, 2, 0);
        int contract = x.type(13, 2, 0);
        int big = x.type(16, 2, 5);
        marks(x, "option list", 10, list, 0, 6);
        marks(x, "or int list", 14, 2, list, 6);
        marks(x, "or list int", 14, list, 2, 6);
        marks(x, "pair list int", 18, list, 2, 6);
        marks(x, "pair int operation", 18, 2, 9, 0);
        marks(x, "pair contract int", 18, contract, 2, 0);
        marks(x, "map int operation", 15, 2, 9, 0);
        marks(x, "list operation", 11, 9, 0, 0);
        marks(x, "option big_map", 10, big, 0, 0);
        marks(x, "list big_map", 11, big, 0, 0);
        marks(x, "or big_map int", 14, big, 2, 0);
        marks(x, "map int big_map", 15, 2, big, 0);
        marks(x, "big_map int big_map", 16, 2, big, 0);
        marks(x, "big_map int list", 16, 2, list, 4);
        marks(x, "big_map int operation", 16, 2, 9, 0);
        marks(x, "pair big_map int", 18, big, 2, 4);
        marks(x, "pair int big_map", 18, 2, big, 4);
        marks(x, "pair big_map big_map", 18, big, big, 4);
        marks(x, "pair big_map operation", 18, big, 9, 0);
        int deep = x.type(18, big, x.type(18, list, big));
        Due.is("pair big_map (pair list big_map)", x.ofType(deep, 3), 4);
        marks(x, "option of that", 10, deep, 0, 0);
    }

    /** It takes more than 512 calls to get there, so this is the class's own rule rather than a promise. */
    private static void atMostTwoThousandTypes() {
        ValueTrees x = new ValueTrees();
        int made = 10;
        for (int left = 0; left < 200 && made < 2000; left++) {
            for (int right = 0; right < 10 && made < 2000; right++) {
                Due.is("type(18, " + left + ", " + right + ")", x.type(18, left, right), made);
                made++;
            }
        }
        Due.is("the 2001st", x.type(17, 0, 0), -2);
        Due.is("one that is there", x.type(18, 0, 0), 10);
        Due.is("a wrong one", x.type(12, 9, 0), -1);
        Due.is("number", x.number(0, 2, 1), 2);
        Due.is("bytes", x.bytes(1, 5, 0, 0), 5);
        Due.is("pair of a type that is there", x.pair(2, 0, 1), 9);
        int last = x.typeOf(2);
        Due.is("its word", x.ofType(last, 0), 18);
        Due.is("one pair more", x.pair(2, 2, 2), -2);
        Due.is("typeOf(2) as it was", x.typeOf(2), last);
        Due.is("pair with nothing", x.pair(2, 2, 9), -1);
    }
}
