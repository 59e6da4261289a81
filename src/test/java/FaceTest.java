import java.lang.reflect.Constructor;
import java.lang.reflect.Field;
import java.lang.reflect.Method;
import java.lang.reflect.Modifier;
import java.util.Arrays;
import java.util.Set;
import java.util.TreeSet;

/** The public face is the document's and no more, and a new object is as promise 1 says. */
public final class FaceTest {
    private static final String[] METHODS = {
        "int type(int,int,int)", "int ofType(int,int)", "int number(int,int,long)", "int times(int,int,int)",
        "int bytes(int,int,long,int)", "int simple(int,int)", "int empty(int,int)", "int wrap(int,int,int,int)",
        "int pair(int,int,int)", "int cons(int,int,int)", "int put(int,int,int,int)", "int remove(int,int,int)",
        "int part(int,int,int)", "int get(int,int,int)", "int at(int,int,int,int)", "boolean move(int,int)",
        "boolean clear(int)", "int typeOf(int)", "int length(int)", "int which(int)", "int many(int)",
        "int digit(int,int)", "boolean isBelow(int)", "int byteAt(int,int)", "int has(int,int)", "int compare(int,int)",
    };

    public static void main(String[] args) {
        theFaceIsTheDocuments();
        theConstants();
        aNewObjectHasNothing();
        aNewObjectHasTenTypes();
        objectsShareNothing();
        Due.end();
    }

    private static void theFaceIsTheDocuments() {
        Class<?> face = ValueTrees.class;
        Due.yes("public", Modifier.isPublic(face.getModifiers()));
        Due.yes("final", Modifier.isFinal(face.getModifiers()));
        Set<String> found = new TreeSet<>();
        Set<String> hidden = new TreeSet<>();
        for (Method m : face.getDeclaredMethods()) {
            if (!Modifier.isPrivate(m.getModifiers()) && !m.isSynthetic()) {
                found.add(written(m));
            } else {
                hidden.add(m.getName());
            }
        }
        Set<String> wanted = new TreeSet<>(Arrays.asList(METHODS));
        Due.yes("methods " + found, found.equals(wanted));
        for (String line : wanted) {
            String name = line.substring(line.indexOf(' ') + 1, line.indexOf('('));
            Due.no("a private method named " + name, hidden.contains(name));
        }
        Set<String> fields = new TreeSet<>();
        for (Field f : face.getDeclaredFields()) {
            if (!Modifier.isPrivate(f.getModifiers()) && !f.isSynthetic()) {
                fields.add(f.getName());
            }
        }
        Due.yes("fields " + fields, fields.equals(new TreeSet<>(Arrays.asList("NONE", "FULL"))));
        Constructor<?>[] makers = face.getDeclaredConstructors();
        Due.is("constructors", makers.length, 1);
        Due.yes("a public constructor", Modifier.isPublic(makers[0].getModifiers()) && makers[0].getParameterCount() == 0);
    }

    private static String written(Method m) {
        StringBuilder text = new StringBuilder(m.getReturnType().getSimpleName());
        text.append(' ').append(m.getName()).append('(');
        String between = "";
        for (Class<?> parameter : m.getParameterTypes()) {
            text.append(between).append(parameter.getSimpleName());
            between = ",";
        }
        return text.append(')').toString();
    }

    private static void theConstants() {
        Due.is("NONE", ValueTrees.NONE, -1);
        Due.is("FULL", ValueTrees.FULL, -2);
    }

    private static void aNewObjectHasNothing() {
        ValueTrees x = new ValueTrees();
        for (int r = -1; r <= 16; r++) {
            Due.is("typeOf(" + r + ")", x.typeOf(r), -1);
            Due.is("length(" + r + ")", x.length(r), -1);
        }
    }

    private static void aNewObjectHasTenTypes() {
        ValueTrees x = new ValueTrees();
        for (int t = 0; t < 10; t++) {
            Due.is("ofType(" + t + ", 0)", x.ofType(t, 0), t);
        }
        Due.is("ofType(10, 0)", x.ofType(10, 0), -1);
        Due.is("the first new type", x.type(11, 0, 0), 10);
    }

    private static void objectsShareNothing() {
        ValueTrees x = new ValueTrees();
        x.simple(0, 2);
        x.type(11, 2, 0);
        ValueTrees y = new ValueTrees();
        Due.is("typeOf(0) of another", y.typeOf(0), -1);
        Due.is("ofType(10, 0) of another", y.ofType(10, 0), -1);
    }
}
