/** Promises 14 to 18: part, get, at, move, clear. */
public final class TakingApartTest {
    public static void main(String[] args) {
        partsOfChoices();
        partsOfPairs();
        partsOfLists();
        partsOfOthers();
        getValues();
        atInOrder();
        atWrong();
        moves();
        clears();
        noRegisterIsNone();
        Due.end();
    }

    private static void partsOfChoices() {
        ValueTrees x = new ValueTrees();
        int option = x.type(10, 2, 0);
        int or = x.type(14, 2, 5);
        x.number(0, 2, 64);
        x.bytes(1, 5, 1, 2);
        x.wrap(2, option, 0, 0);
        x.wrap(3, or, 0, 0);
        x.wrap(4, or, 1, 1);
        x.empty(5, option);
        Due.is("in some", x.part(6, 2, 0), 3);
        Due.is("typeOf(6)", x.typeOf(6), 2);
        Due.is("in left", x.part(7, 3, 0), 3);
        Due.is("in right", x.part(8, 4, 0), 7);
        Due.is("typeOf(8)", x.typeOf(8), 5);
        Due.is("in none", x.part(9, 5, 0), -1);
        for (int from = 2; from <= 5; from++) {
            Due.is("part(9, " + from + ", 1)", x.part(9, from, 1), -1);
            Due.is("part(9, " + from + ", -1)", x.part(9, from, -1), -1);
            Due.is("part(9, " + from + ", 2)", x.part(9, from, 2), -1);
        }
        Due.is("typeOf(9)", x.typeOf(9), -1);
        Due.is("over its own", x.part(2, 2, 0), 3);
        Due.is("typeOf(2)", x.typeOf(2), 2);
    }

    private static void partsOfPairs() {
        ValueTrees x = new ValueTrees();
        x.number(0, 2, 64);
        x.bytes(1, 5, 1, 2);
        x.pair(2, 0, 1);
        Due.is("first", x.part(3, 2, 0), 3);
        Due.is("typeOf(3)", x.typeOf(3), 2);
        Due.is("second", x.part(4, 2, 1), 7);
        Due.is("typeOf(4)", x.typeOf(4), 5);
        Due.is("third", x.part(5, 2, 2), -1);
        Due.is("which -1", x.part(5, 2, -1), -1);
        Due.is("typeOf(5)", x.typeOf(5), -1);
    }

    private static void partsOfLists() {
        ValueTrees x = new ValueTrees();
        int list = x.type(11, 2, 0);
        x.empty(0, list);
        for (int k = 1; k <= 5; k++) {
            x.number(1, 2, k);
            x.cons(0, 1, 0);
        }
        for (int k = 5; k >= 1; k--) {
            Due.is("first", x.part(1, 0, 0), 2);
            Due.is("digit(1, 0)", x.digit(1, 0), k);
            Due.is("which 2", x.part(2, 0, 2), -1);
            Due.is("others", x.part(0, 0, 1), 5 + 2 * (k - 1));
            Due.is("many(0)", x.many(0), k - 1);
            Due.is("typeOf(0)", x.typeOf(0), list);
        }
        Due.is("first of an empty list", x.part(1, 0, 0), -1);
        Due.is("others of an empty list", x.part(1, 0, 1), -1);
        Due.is("digit(1, 0) as it was", x.digit(1, 0), 1);
        Due.is("typeOf(2)", x.typeOf(2), -1);
    }

    private static void partsOfOthers() {
        ValueTrees x = new ValueTrees();
        x.simple(0, 0);
        x.simple(1, 1);
        x.simple(2, 2);
        x.number(3, 2, 70000);
        x.bytes(4, 6, 3, 3);
        x.empty(5, x.type(12, 0, 0));
        x.put(5, 5, 0, 0);
        x.empty(6, x.type(15, 0, 0));
        x.put(6, 6, 0, 0);
        for (int from = 0; from <= 7; from++) {
            Due.is("part(8, " + from + ", 0)", x.part(8, from, 0), -1);
            Due.is("part(8, " + from + ", 1)", x.part(8, from, 1), -1);
        }
        Due.is("typeOf(8)", x.typeOf(8), -1);
    }

    private static void getValues() {
        for (int word = 15; word <= 16; word++) {
            ValueTrees x = new ValueTrees();
            x.empty(0, x.type(word, 2, 5));
            for (int k = 4; k >= 0; k--) {
                x.number(1, 2, 10 * k);
                x.bytes(2, 5, 65 + k, k);
                x.put(0, 0, 1, 2);
            }
            for (int k = 0; k <= 4; k++) {
                x.number(1, 2, 10 * k);
                Due.is("get of " + 10 * k, x.get(3, 0, 1), 5 + k);
                Due.is("typeOf(3)", x.typeOf(3), 5);
                Due.is("byteAt(3, 0)", x.byteAt(3, 0), k == 0 ? -1 : 65 + k);
                x.number(1, 2, 10 * k + 1);
                Due.is("get of " + (10 * k + 1), x.get(3, 0, 1), -1);
                Due.is("length(3) as it was", x.length(3), 5 + k);
            }
            x.number(1, 2, -1);
            Due.is("get ahead of the first", x.get(3, 0, 1), -1);
            x.number(4, 3, 10);
            Due.is("get of another type", x.get(3, 0, 4), -1);
            Due.is("get of nothing", x.get(3, 0, 9), -1);
            Due.is("get from nothing", x.get(3, 9, 4), -1);
            Due.is("get from a number", x.get(3, 4, 4), -1);
            x.empty(5, x.type(12, 3, 0));
            x.put(5, 5, 4, 0);
            Due.is("get from a set", x.get(3, 5, 4), -1);
            Due.is("length(3) as it was", x.length(3), 9);
            Due.is("get over the tree", x.get(4, 0, 1), -1);
            x.number(1, 2, 40);
            Due.is("get over the key", x.get(1, 0, 1), 9);
        }
    }

    private static void atInOrder() {
        ValueTrees x = new ValueTrees();
        long[] keys = {3, -1, 64, -64, 0, 70000, -70000, 63, -63};
        long[] sorted = {-70000, -64, -63, -1, 0, 3, 63, 64, 70000};
        int set = x.type(12, 8, 0);
        int map = x.type(15, 8, 8);
        x.empty(0, set);
        x.empty(1, map);
        for (long key : keys) {
            x.number(2, 8, key);
            x.number(3, 8, -key);
            x.put(0, 0, 2, 0);
            x.put(1, 1, 2, 3);
        }
        for (int i = 0; i < sorted.length; i++) {
            x.number(4, 8, sorted[i]);
            x.number(5, 8, -sorted[i]);
            Due.is("key " + i + " of the set", x.at(6, 0, i, 0), x.length(4));
            Due.is("which is " + sorted[i], x.compare(6, 4), 0);
            Due.is("key " + i + " of the map", x.at(7, 1, i, 0), x.length(4));
            Due.is("which is " + sorted[i], x.compare(7, 4), 0);
            Due.is("value " + i + " of the map", x.at(8, 1, i, 1), x.length(5));
            Due.is("which is " + -sorted[i], x.compare(8, 5), 0);
            Due.is("value " + i + " of the set", x.at(9, 0, i, 1), -1);
        }
        Due.is("typeOf(9)", x.typeOf(9), -1);
    }

    private static void atWrong() {
        ValueTrees x = new ValueTrees();
        x.empty(0, x.type(16, 2, 5));
        x.number(1, 2, 1);
        x.bytes(2, 5, 1, 1);
        Due.is("at(3, 0, 0, 0) of an empty one", x.at(3, 0, 0, 0), -1);
        x.put(0, 0, 1, 2);
        int[] places = {Integer.MIN_VALUE, -1, 1, 2, Integer.MAX_VALUE};
        for (int i : places) {
            Due.is("at(3, 0, " + i + ", 0)", x.at(3, 0, i, 0), -1);
            Due.is("at(3, 0, " + i + ", 1)", x.at(3, 0, i, 1), -1);
        }
        int[] whichs = {Integer.MIN_VALUE, -1, 2, Integer.MAX_VALUE};
        for (int which : whichs) {
            Due.is("at(3, 0, 0, " + which + ")", x.at(3, 0, 0, which), -1);
        }
        Due.is("at of a number", x.at(3, 1, 0, 0), -1);
        Due.is("at of bytes", x.at(3, 2, 0, 0), -1);
        Due.is("at of nothing", x.at(3, 9, 0, 0), -1);
        x.empty(4, x.type(11, 2, 0));
        x.cons(4, 1, 4);
        Due.is("at of a list", x.at(3, 4, 0, 0), -1);
        Due.is("typeOf(3)", x.typeOf(3), -1);
        Due.is("the key of a big_map", x.at(3, 0, 0, 0), 2);
        Due.is("its value", x.at(3, 0, 0, 1), 6);
    }

    private static void moves() {
        ValueTrees x = new ValueTrees();
        x.number(0, 2, 64);
        Due.yes("move(15, 0)", x.move(15, 0));
        Due.is("length(15)", x.length(15), 3);
        Due.is("length(0) too", x.length(0), 3);
        Due.yes("move(0, 0)", x.move(0, 0));
        Due.is("length(0)", x.length(0), 3);
        Due.yes("move of nothing", x.move(0, 7));
        Due.is("typeOf(0)", x.typeOf(0), -1);
        Due.is("length(15) as it was", x.length(15), 3);
        Due.yes("move of nothing to nothing", x.move(1, 2));
        for (int r : Make.NO_REGISTERS) {
            Due.no("move(" + r + ", 15)", x.move(r, 15));
            Due.no("move(15, " + r + ")", x.move(15, r));
            Due.no("move(" + r + ", " + r + ")", x.move(r, r));
            Due.is("length(15) as it was", x.length(15), 3);
        }
    }

    private static void clears() {
        ValueTrees x = new ValueTrees();
        for (int r = 0; r < 16; r++) {
            x.simple(r, 0);
        }
        for (int r : Make.NO_REGISTERS) {
            Due.no("clear(" + r + ")", x.clear(r));
        }
        for (int r = 0; r < 16; r++) {
            Due.is("length(" + r + ") ahead", x.length(r), 2);
            Due.yes("clear(" + r + ")", x.clear(r));
            Due.is("length(" + r + ")", x.length(r), -1);
            Due.is("typeOf(" + r + ")", x.typeOf(r), -1);
            Due.yes("clear(" + r + ") again", x.clear(r));
        }
    }

    private static void noRegisterIsNone() {
        ValueTrees x = new ValueTrees();
        x.number(0, 2, 1);
        x.pair(1, 0, 0);
        x.empty(2, x.type(15, 2, 2));
        x.put(2, 2, 0, 0);
        for (int r : Make.NO_REGISTERS) {
            Due.is("part", x.part(r, 1, 0), -1);
            Due.is("part from", x.part(3, r, 0), -1);
            Due.is("get", x.get(r, 2, 0), -1);
            Due.is("get tree", x.get(3, r, 0), -1);
            Due.is("get key", x.get(3, 2, r), -1);
            Due.is("at", x.at(r, 2, 0, 0), -1);
            Due.is("at tree", x.at(3, r, 0, 0), -1);
        }
        Due.is("typeOf(3)", x.typeOf(3), -1);
    }
}
