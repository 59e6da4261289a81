/** Arguments, types and values that several tests need. */
final class Make {
    /** Beside the nearest, those that become registers if only their low bits are looked at. */
    static final int[] NO_REGISTERS = {
        Integer.MIN_VALUE, Integer.MIN_VALUE + 1, -65536, -16, -2, -1, 16, 17, 32, 256, 65537, Integer.MAX_VALUE,
    };

    private Make() {
    }

    /**
     * One of each kind: 0 unit, 1 false, 2 true, 3 number, 4 row, 5 none, 6 some, 7 left, 8 right, 9 pair, 10 list,
     * 11 set, 12 map, 13 big_map, each with the number in it; 14 and 15 nothing.
     */
    static void oneOfEach(ValueTrees x) {
        int option = x.type(10, 2, 0);
        int or = x.type(14, 2, 2);
        int list = x.type(11, 2, 0);
        int set = x.type(12, 2, 0);
        int map = x.type(15, 2, 2);
        int big = x.type(16, 2, 2);
        x.simple(0, 0);
        x.simple(1, 1);
        x.simple(2, 2);
        x.number(3, 2, -7);
        x.bytes(4, 6, 0x4241, 2);
        x.empty(5, option);
        x.wrap(6, option, 0, 3);
        x.wrap(7, or, 0, 3);
        x.wrap(8, or, 1, 3);
        x.pair(9, 3, 4);
        x.empty(10, list);
        x.cons(10, 3, 10);
        x.empty(11, set);
        x.put(11, 11, 3, 0);
        x.empty(12, map);
        x.put(12, 12, 3, 3);
        x.empty(13, big);
        x.put(13, 13, 3, 3);
    }

    static ValueTrees oneOfEach() {
        ValueTrees x = new ValueTrees();
        oneOfEach(x);
        return x;
    }

    /** A comparable type of so many parts, 1 to 200, in few calls. */
    static int typeOfParts(ValueTrees x, int parts) {
        return typeOfParts(x, parts, new int[parts + 1]);
    }

    private static int typeOfParts(ValueTrees x, int parts, int[] known) {
        if (parts == 1) {
            return 2;
        }
        if (known[parts] == 0) {
            int left = (parts - 1) / 2;
            known[parts] = parts == 2 ? x.type(10, 2, 0)
                    : x.type(18, typeOfParts(x, left, known), typeOfParts(x, parts - 1 - left, known));
        }
        return known[parts];
    }

    /** Register r gets an int of a length from 2 to 144. */
    static void number(ValueTrees x, int r, int length) {
        x.number(r, 2, 1);
        Due.is("an int of length " + length, x.times(r, r, 7 * (length - 2)), length);
    }

    /** Register r gets a list of two ints, of a length from 9 to 160; register 15 is used for it. */
    static void list(ValueTrees x, int r, int length) {
        int half = (length - 5) / 2;
        x.empty(r, x.type(11, 2, 0));
        number(x, 15, half);
        x.cons(r, 15, r);
        number(x, 15, length - 5 - half);
        Due.is("a list of length " + length, x.cons(r, 15, r), length);
    }
}
