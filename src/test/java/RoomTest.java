import java.lang.reflect.Array;
import java.lang.reflect.Field;
import java.lang.reflect.Modifier;
import java.util.ArrayDeque;
import java.util.Collections;
import java.util.Deque;
import java.util.IdentityHashMap;
import java.util.List;
import java.util.Set;

/** No answer tells what takes room, so this looks inside: how many objects an object of the class leads to. */
public final class RoomTest {
    public static void main(String[] args) throws IllegalAccessException {
        Due.sentence("terms: what no register leads to any more takes no room");
        clearedRegisters();
        takenApart();
        replacedAndRemoved();
        refused();
        Due.end();
    }

    private static int room(ValueTrees x) throws IllegalAccessException {
        Set<Object> seen = Collections.newSetFromMap(new IdentityHashMap<>());
        Deque<Object> open = new ArrayDeque<>();
        open.add(x);
        while (!open.isEmpty()) {
            Object next = open.remove();
            if (seen.add(next)) {
                addWhatItLeadsTo(next, open);
            }
        }
        return seen.size();
    }

    private static void addWhatItLeadsTo(Object from, Deque<Object> open) throws IllegalAccessException {
        if (from instanceof List<?> list) {
            open.addAll(list);
        } else if (from instanceof Object[] row) {
            for (int i = 0; i < Array.getLength(row); i++) {
                addIfThere(row[i], open);
            }
        } else if (!from.getClass().isArray()) {
            addFields(from, open);
        }
    }

    private static void addFields(Object from, Deque<Object> open) throws IllegalAccessException {
        for (Class<?> c = from.getClass(); c != Object.class; c = c.getSuperclass()) {
            for (Field f : c.getDeclaredFields()) {
                if (!Modifier.isStatic(f.getModifiers()) && !f.getType().isPrimitive()) {
                    f.setAccessible(true);
                    addIfThere(f.get(from), open);
                }
            }
        }
    }

    private static void addIfThere(Object found, Deque<Object> open) {
        if (found != null) {
            open.add(found);
        }
    }

    private static void clearedRegisters() throws IllegalAccessException {
        ValueTrees x = Make.oneOfEach();
        Due.yes("values take room", room(x) > room(onlyTheTypes()));
        for (int r = 0; r < 14; r++) {
            x.clear(r);
        }
        Due.is("room with all cleared", room(x), room(onlyTheTypes()));
        ValueTrees y = Make.oneOfEach();
        for (int r = 0; r < 14; r++) {
            y.move(r, 15);
        }
        Due.is("room with nothing moved to all", room(y), room(onlyTheTypes()));
    }

    private static ValueTrees onlyTheTypes() {
        ValueTrees x = new ValueTrees();
        x.type(10, 2, 0);
        x.type(14, 2, 2);
        x.type(11, 2, 0);
        x.type(12, 2, 0);
        x.type(15, 2, 2);
        x.type(16, 2, 2);
        x.type(18, 2, 6);
        return x;
    }

    private static void takenApart() throws IllegalAccessException {
        ValueTrees x = new ValueTrees();
        ValueTrees y = new ValueTrees();
        x.empty(0, x.type(11, 2, 0));
        y.empty(0, y.type(11, 2, 0));
        for (int i = 0; i < 70; i++) {
            x.number(1, 2, i % 60);
            x.cons(0, 1, 0);
        }
        for (int i = 0; i < 70; i++) {
            x.part(0, 0, 1);
        }
        x.clear(1);
        Due.is("room of a list whose others are empty", room(x), room(y));
        x.number(0, 2, 1);
        y.number(0, 2, 1);
        x.type(18, 2, 2);
        y.type(18, 2, 2);
        x.pair(0, 0, 0);
        x.part(0, 0, 1);
        Due.is("room of the second of a pair", room(x), room(y));
    }

    private static void replacedAndRemoved() throws IllegalAccessException {
        int[] words = {12, 15, 16};
        for (int word : words) {
            ValueTrees x = new ValueTrees();
            ValueTrees y = new ValueTrees();
            x.empty(0, x.type(word, 2, 2));
            y.empty(0, y.type(word, 2, 2));
            for (int i = 0; i < 20; i++) {
                x.number(1, 2, i);
                x.put(0, 0, 1, 1);
            }
            for (int i = 0; i < 20; i++) {
                x.number(1, 2, i);
                x.remove(0, 0, 1);
            }
            x.clear(1);
            Due.is("room of one whose keys are removed", room(x), room(y));
            for (int i = 0; i < 9; i++) {
                x.number(1, 2, 5);
                x.number(2, 2, i);
                x.put(0, 0, 1, 2);
            }
            y.number(1, 2, 5);
            y.number(2, 2, 8);
            y.put(0, 0, 1, 2);
            Due.is("room of one whose value was replaced", lessTheKeys(x), lessTheKeys(y));
        }
    }

    /** A key put again may be held by the tree as the old one or as the new one; without the registers' own it is one. */
    private static int lessTheKeys(ValueTrees x) throws IllegalAccessException {
        x.clear(1);
        x.clear(2);
        return room(x);
    }

    private static void refused() throws IllegalAccessException {
        ValueTrees x = new ValueTrees();
        Make.list(x, 0, 160);
        int before = room(x);
        Due.is("a pair that is too long", x.pair(1, 0, 0), -2);
        Due.is("a list that is too long", x.cons(1, 15, 0), -2);
        Due.is("a number of no such type", x.number(1, 9, 1), -1);
        Due.is("a value for no register", x.number(16, 2, 1), -1);
        Due.is("room behind refused calls", room(x), before);
    }
}
