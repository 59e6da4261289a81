/** Promises 14 to 18, the calls that take values apart: a test for each sentence that names an edge. */
public final class EdgesOfTakingApartTest {
    private static final int[] FAR = {Integer.MIN_VALUE, Integer.MIN_VALUE + 1, -256, -1, 256, 65537, Integer.MAX_VALUE};
    private static final int[] TREES = {12, 15, 16};

    public static void main(String[] args) {
        partOfSomeLeftRight();
        partOfNone();
        partOfAPair();
        partOfAList();
        partOfAnEmptyList();
        partOfOthers();
        noSuchPart();
        getTheValueOfAKey();
        getWhenItIsNotThere();
        getFromASet();
        getOfOthers();
        atInOrder();
        atFromZero();
        atOfAnEmptyOne();
        atNoValueOfSets();
        atAnotherWhich();
        atOfOthers();
        moveWhatAnotherHas();
        movePerhapsNothing();
        moveOfNoSuchRegister();
        clearHasNothing();
        clearOfNoSuchRegister();
        noSuchRegisters();
        Due.end();
    }

    private static void partOfSomeLeftRight() {
        Due.sentence("promise 14: what is in some, left or right (which = 0)");
        ValueTrees x = Make.oneOfEach();
        for (int from = 6; from <= 8; from++) {
            Due.is("part(15, " + from + ", 0)", x.part(15, from, 0), 2);
            Due.is("typeOf(15)", x.typeOf(15), 2);
            Due.is("compare(15, 3)", x.compare(15, 3), 0);
            int f = from;
            Refused.none("part(15, " + f + ", 1)", Make::oneOfEach, y -> y.part(15, f, 1));
        }
        Due.is("over its own", x.part(6, 6, 0), 2);
        Due.is("typeOf(6)", x.typeOf(6), 2);
    }

    private static void partOfNone() {
        Due.sentence("promise 14: what is in some: of none there is no part");
        Refused.none("part(15, 5, 0)", Make::oneOfEach, x -> x.part(15, 5, 0));
        Refused.none("part(15, 5, 1)", Make::oneOfEach, x -> x.part(15, 5, 1));
        Refused.none("part(3, 5, 0)", Make::oneOfEach, x -> x.part(3, 5, 0));
    }

    private static void partOfAPair() {
        Due.sentence("promise 14: the first (0) or second (1) of a pair");
        ValueTrees x = Make.oneOfEach();
        Due.is("part(15, 9, 0)", x.part(15, 9, 0), 2);
        Due.is("compare(15, 3)", x.compare(15, 3), 0);
        Due.is("part(15, 9, 1)", x.part(15, 9, 1), 7);
        Due.is("compare(15, 4)", x.compare(15, 4), 0);
        Due.is("over its own", x.part(9, 9, 1), 7);
        Due.is("typeOf(9)", x.typeOf(9), 6);
    }

    private static void partOfAList() {
        Due.sentence("promise 14: the first (0) or the others (1) of a list that is not empty");
        ValueTrees x = new ValueTrees();
        int list = x.type(11, 2, 0);
        x.empty(0, list);
        for (int i = 1; i <= 3; i++) {
            x.number(1, 2, i);
            x.cons(0, 1, 0);
        }
        for (int i = 3; i >= 1; i--) {
            Due.is("the first", x.part(1, 0, 0), 2);
            Due.is("which is", x.digit(1, 0), i);
            Due.is("the others", x.part(0, 0, 1), 5 + 2 * (i - 1));
            Due.is("how many", x.many(0), i - 1);
            Due.is("typeOf(0)", x.typeOf(0), list);
        }
    }

    private static void emptyOnes(ValueTrees x) {
        x.empty(0, x.type(11, 2, 0));
        x.number(1, 2, 5);
        x.cons(2, 1, 0);
        x.part(2, 2, 1);
    }

    private static void partOfAnEmptyList() {
        Due.sentence("promise 14: of a list that is not empty: of an empty one there is no part");
        for (int list = 0; list <= 2; list += 2) {
            int from = list;
            Refused.none("part(1, " + from + ", 0)", EdgesOfTakingApartTest::emptyOnes, x -> x.part(1, from, 0));
            Refused.none("part(1, " + from + ", 1)", EdgesOfTakingApartTest::emptyOnes, x -> x.part(1, from, 1));
            Refused.none("part(3, " + from + ", 1)", EdgesOfTakingApartTest::emptyOnes, x -> x.part(3, from, 1));
        }
    }

    private static void partOfOthers() {
        Due.sentence("promise 14: others and nothing have no part");
        int[] others = {0, 1, 2, 3, 4, 11, 12, 13, 14, 15};
        for (int from : others) {
            for (int w = 0; w <= 1; w++) {
                int which = w;
                Refused.none("part(10, " + from + ", " + which + ")", Make::oneOfEach, x -> x.part(10, from, which));
            }
        }
    }

    private static void noSuchPart() {
        Due.sentence("promise 14: another which is not as it says");
        for (int f = 6; f <= 10; f++) {
            int from = f;
            Refused.none("part(15, " + from + ", 2)", Make::oneOfEach, x -> x.part(15, from, 2));
            for (int which : FAR) {
                Refused.none("part(15, " + from + ", " + which + ")", Make::oneOfEach, x -> x.part(15, from, which));
            }
        }
    }

    /** Register 0 gets a set, map or big_map with the keys -20, 0 and 20, each with itself and one as its value. */
    private static void threeKeys(ValueTrees x, int word) {
        x.empty(0, x.type(word, 2, 2));
        int[] keys = {0, 20, -20};
        for (int key : keys) {
            x.number(1, 2, key);
            x.number(2, 2, key + 1);
            x.put(0, 0, 1, 2);
        }
        x.number(2, 2, 99);
    }

    private static void getTheValueOfAKey() {
        Due.sentence("promise 15: Register r gets the value of a key");
        for (int word = 15; word <= 16; word++) {
            ValueTrees x = new ValueTrees();
            threeKeys(x, word);
            for (int key = -20; key <= 20; key += 20) {
                x.number(1, 2, key);
                Due.is("get of " + key, x.get(3, 0, 1), 2);
                Due.is("its digit", x.digit(3, 0), Math.abs(key + 1));
                Due.is("is it below", x.isBelow(3) ? 1 : 0, key < 0 ? 1 : 0);
            }
            Due.is("over the key", x.get(1, 0, 1), 2);
            Due.is("its digit", x.digit(1, 0), 21);
            x.number(1, 2, 0);
            Due.is("over the map", x.get(0, 0, 1), 2);
            Due.is("its digit", x.digit(0, 0), 1);
        }
    }

    private static void getWhenItIsNotThere() {
        Due.sentence("promise 15: NONE: also when it is not there");
        long[] others = {-21, -19, -1, 1, 19, 21, Long.MIN_VALUE, Long.MAX_VALUE};
        for (int w = 15; w <= 16; w++) {
            int word = w;
            for (long key : others) {
                Refused.none("get of " + key, x -> { threeKeys(x, word); x.number(1, 2, key); }, x -> x.get(2, 0, 1));
            }
            Refused.none("get from an empty one", x -> { x.empty(0, x.type(word, 2, 2)); x.number(1, 2, 0); },
                    x -> x.get(2, 0, 1));
            Refused.none("get of a removed one", x -> { threeKeys(x, word); x.remove(0, 0, 1); }, x -> x.get(2, 0, 1));
        }
    }

    private static void getFromASet() {
        Due.sentence("promise 15: the value of a key: a set has none");
        Refused.none("get of one that is there", x -> threeKeys(x, 12), x -> x.get(2, 0, 1));
        Refused.none("get of one that is not there", x -> threeKeys(x, 12), x -> x.get(1, 0, 2));
    }

    private static void getOfOthers() {
        Due.sentence("promise 15: NONE: no such tree, or a key of another type");
        for (int r = 0; r < 16; r++) {
            int other = r;
            for (int t = 12; t <= 13 && other != 3; t++) {
                int tree = t;
                Refused.none("get(15, " + tree + ", " + other + ")", Make::oneOfEach, x -> x.get(15, tree, other));
            }
            if (other < 12 || other > 13) {
                Refused.none("get(15, " + other + ", 3)", Make::oneOfEach, x -> x.get(15, other, 3));
            }
        }
        Refused.none("get of a nat", x -> { threeKeys(x, 15); x.number(1, 3, 0); }, x -> x.get(2, 0, 1));
    }

    private static void atInOrder() {
        Due.sentence("promise 16: the i-th (from 0, in order) key (which = 0) of a set, map or big_map, or its value (1)");
        for (int word : TREES) {
            ValueTrees x = new ValueTrees();
            threeKeys(x, word);
            for (int i = 0; i < 3; i++) {
                int key = 20 * i - 20;
                Due.is("key " + i, x.at(3, 0, i, 0), 2);
                x.number(4, 2, key);
                Due.is("is " + key, x.compare(3, 4), 0);
                if (word != 12) {
                    Due.is("value " + i, x.at(3, 0, i, 1), 2);
                    x.number(4, 2, key + 1);
                    Due.is("is " + (key + 1), x.compare(3, 4), 0);
                }
            }
            Due.is("over its own", x.at(0, 0, 2, 0), 2);
            Due.is("typeOf(0)", x.typeOf(0), 2);
        }
    }

    private static void atFromZero() {
        Due.sentence("promise 16: the i-th, from 0: none before it and none behind the last");
        for (int word : TREES) {
            for (int w = 0; w <= 1; w++) {
                int which = w;
                Refused.none("at(3, 0, -1, " + which + ")", x -> threeKeys(x, word), x -> x.at(3, 0, -1, which));
                Refused.none("at(3, 0, 3, " + which + ")", x -> threeKeys(x, word), x -> x.at(3, 0, 3, which));
                for (int i : FAR) {
                    Refused.none("at(3, 0, " + i + ", " + which + ")", x -> threeKeys(x, word), x -> x.at(3, 0, i, which));
                }
            }
        }
    }

    private static void atOfAnEmptyOne() {
        Due.sentence("promise 16: the i-th of a set, map or big_map: an empty one has none");
        for (int word : TREES) {
            for (int w = 0; w <= 1; w++) {
                int which = w;
                Refused.none("at(1, 0, 0, " + which + ")", x -> x.empty(0, x.type(word, 2, 2)), x -> x.at(1, 0, 0, which));
            }
        }
    }

    private static void atNoValueOfSets() {
        Due.sentence("promise 16: its value (1; not of sets)");
        for (int i = 0; i < 3; i++) {
            int place = i;
            Refused.none("at(3, 0, " + place + ", 1)", x -> threeKeys(x, 12), x -> x.at(3, 0, place, 1));
        }
    }

    private static void atAnotherWhich() {
        Due.sentence("promise 16: another which is not as it says");
        for (int word : TREES) {
            Refused.none("at(3, 0, 1, 2)", x -> threeKeys(x, word), x -> x.at(3, 0, 1, 2));
            for (int which : FAR) {
                Refused.none("at(3, 0, 1, " + which + ")", x -> threeKeys(x, word), x -> x.at(3, 0, 1, which));
            }
        }
    }

    private static void atOfOthers() {
        Due.sentence("promise 16: of a set, map or big_map: others and nothing are not as it says");
        for (int r = 0; r < 16; r++) {
            int from = r;
            for (int w = 0; w <= 1 && (from < 11 || from > 13); w++) {
                int which = w;
                Refused.none("at(15, " + from + ", 0, " + which + ")", Make::oneOfEach, x -> x.at(15, from, 0, which));
            }
        }
    }

    private static void moveWhatAnotherHas() {
        Due.sentence("promise 17: Register r gets what another one has. Answers true");
        for (int from = 0; from < 14; from++) {
            ValueTrees x = Make.oneOfEach();
            Due.yes("move(15, " + from + ")", x.move(15, from));
            Due.is("typeOf(15)", x.typeOf(15), x.typeOf(from));
            Due.is("length(15)", x.length(15), x.length(from));
            Due.is("which(15)", x.which(15), x.which(from));
            Due.is("many(15)", x.many(15), x.many(from));
            Due.yes("typeOf(" + from + ")", x.typeOf(from) >= 0);
        }
        ValueTrees y = Make.oneOfEach();
        Due.yes("move to itself", y.move(3, 3));
        Due.is("digit(3, 0)", y.digit(3, 0), 7);
    }

    private static void movePerhapsNothing() {
        Due.sentence("promise 17: perhaps nothing");
        ValueTrees x = Make.oneOfEach();
        Due.yes("move(0, 14)", x.move(0, 14));
        Due.is("typeOf(0)", x.typeOf(0), -1);
        Due.is("length(0)", x.length(0), -1);
        Due.yes("move(14, 15)", x.move(14, 15));
        Due.is("typeOf(14)", x.typeOf(14), -1);
        Due.yes("move(15, 15)", x.move(15, 15));
    }

    private static void moveOfNoSuchRegister() {
        Due.sentence("promise 17: false when there is no such register");
        ValueTrees y = new ValueTrees();
        y.number(0, 2, 1);
        for (int r = 1; r < 16; r++) {
            Due.yes("move(" + r + ", " + (r - 1) + ")", y.move(r, r - 1));
        }
        Due.is("digit(15, 0)", y.digit(15, 0), 1);
        for (int r : Make.NO_REGISTERS) {
            Refused.Call[] calls = {x -> ask(x.move(r, 3)), x -> ask(x.move(3, r)), x -> ask(x.move(r, r)), x -> ask(x.move(15, r))};
            for (int i = 0; i < calls.length; i++) {
                Refused.none("move " + i + " with register " + r, Make::oneOfEach, calls[i]);
            }
        }
    }

    /** A refused call of these two answers false, those of the others NONE. */
    private static int ask(boolean answer) {
        return answer ? 1 : -1;
    }

    private static void clearHasNothing() {
        Due.sentence("promise 18: Register r has nothing. Answers true");
        for (int r = 0; r < 16; r++) {
            ValueTrees x = Make.oneOfEach();
            Due.yes("clear(" + r + ")", x.clear(r));
            Due.is("typeOf(" + r + ")", x.typeOf(r), -1);
            Due.is("length(" + r + ")", x.length(r), -1);
            for (int other = 0; other < 14; other++) {
                Due.is("typeOf(" + other + ") < 0", x.typeOf(other) < 0 ? 1 : 0, other == r ? 1 : 0);
            }
            Due.yes("clear(" + r + ") again", x.clear(r));
        }
    }

    private static void clearOfNoSuchRegister() {
        Due.sentence("promise 18: false when there is no such register");
        for (int r : Make.NO_REGISTERS) {
            Refused.none("clear(" + r + ")", Make::oneOfEach, x -> ask(x.clear(r)));
        }
    }

    private static void noSuchRegisters() {
        Due.sentence("promises 14 to 16: Register r, another one: one that is no register is not as they say");
        for (int r : Make.NO_REGISTERS) {
            Refused.Call[] calls = {
                x -> x.part(r, 9, 0), x -> x.part(15, r, 0), x -> x.part(r, 10, 1), x -> x.part(r, 6, 0),
                x -> x.get(r, 12, 3), x -> x.get(15, r, 3), x -> x.get(15, 12, r),
                x -> x.at(r, 12, 0, 0), x -> x.at(r, 12, 0, 1), x -> x.at(15, r, 0, 0),
            };
            for (int i = 0; i < calls.length; i++) {
                Refused.none("call " + i + " with register " + r, Make::oneOfEach, calls[i]);
            }
        }
    }
}
