/** The example in README.md, so that it stays true: its calls in its order with the answers told there, and some looks between. */
public final class ReadmeTest {
    public static void main(String[] args) {
        ValueTrees x = new ValueTrees();
        aMap(x);
        aList(x);
        aPair(x);
        Due.end();
    }

    private static void aMap(ValueTrees x) {
        int map = x.type(15, 5, 2);
        Due.is("type(15, 5, 2)", map, 10);
        Due.is("empty(0, map)", x.empty(0, map), 5);
        Due.is("bytes(1, 5, 0x6261, 2)", x.bytes(1, 5, 0x6261, 2), 7);
        Due.is("byte 0", x.byteAt(1, 0), 'a');
        Due.is("byte 1", x.byteAt(1, 1), 'b');
        Due.is("number(2, 2, -64)", x.number(2, 2, -64), 3);
        Due.is("put(0, 0, 1, 2)", x.put(0, 0, 1, 2), 17);
        Due.is("has(0, 1)", x.has(0, 1), 1);
        Due.is("get(3, 0, 1)", x.get(3, 0, 1), 3);
        Due.is("compare(2, 3)", x.compare(2, 3), 0);
        Due.is("number(4, 3, -1)", x.number(4, 3, -1), -1);
        Due.is("typeOf(4)", x.typeOf(4), -1);
    }

    private static void aList(ValueTrees x) {
        int list = x.type(11, 2, 0);
        Due.is("type(11, 2, 0)", list, 11);
        Due.is("empty(5, list)", x.empty(5, list), 5);
        Due.is("cons(5, 2, 5)", x.cons(5, 2, 5), 8);
        Due.is("part(6, 5, 0)", x.part(6, 5, 0), 3);
        Due.yes("isBelow(6)", x.isBelow(6));
        Due.is("digit(6, 0)", x.digit(6, 0), 64);
    }

    private static void aPair(ValueTrees x) {
        Due.is("pair(7, 1, 2)", x.pair(7, 1, 2), 12);
        Due.is("typeOf(7)", x.typeOf(7), 12);
        Due.is("ofType(12, 3)", x.ofType(12, 3), 7);
        Due.is("wrap(8, x.type(10, 12, 0), 0, 7)", x.wrap(8, x.type(10, 12, 0), 0, 7), 14);
        Due.is("which(8)", x.which(8), 1);
    }
}
