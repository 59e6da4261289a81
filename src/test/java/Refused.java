/**
 * Refused calls: the answer is due, and nothing is changed. What is there is looked at on the object that was asked
 * and on another one that was not, since looks are calls too and an object has but 512 of them.
 */
final class Refused {
    interface Steps {
        void on(ValueTrees x);
    }

    interface Call {
        int on(ValueTrees x);
    }

    private Refused() {
    }

    static void none(String call, Steps before, Call refused) {
        by(call, before, refused, -1);
    }

    static void full(String call, Steps before, Call refused) {
        by(call, before, refused, -2);
    }

    private static void by(String call, Steps before, Call refused, int want) {
        ValueTrees asked = new ValueTrees();
        ValueTrees other = new ValueTrees();
        before.on(asked);
        before.on(other);
        Due.is(call, refused.on(asked), want);
        Due.same("what is there after " + call, looks(asked), looks(other));
    }

    static String looks(ValueTrees x) {
        StringBuilder seen = new StringBuilder();
        for (int r = 0; r < 16; r++) {
            seen.append(" r").append(r).append(':').append(x.typeOf(r)).append(',').append(x.length(r));
            seen.append(',').append(x.which(r)).append(',').append(x.many(r)).append(',').append(x.isBelow(r));
            seen.append(',').append(x.digit(r, 0)).append(',').append(x.byteAt(r, 0));
        }
        // The number of one more type, which no test makes, tells how many there are.
        return seen.append(" types:").append(x.type(17, 9, 9)).toString();
    }
}
