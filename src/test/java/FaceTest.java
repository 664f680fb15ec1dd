import java.lang.reflect.Constructor;
import java.lang.reflect.Field;
import java.lang.reflect.Method;
import java.lang.reflect.Modifier;
import java.util.Set;
import java.util.TreeSet;

/** The class has the document's public face and no more, and no call of it throws. */
public final class FaceTest {
    private static final String[] FACE = {
        "int make(int,int,int)", "int extend(int)", "int find(int)", "int member(int,int,int)",
        "int track(int,int)", "int remove(int,long)", "int guard(int,long)", "int rename(int,int)",
        "int attribute(int,int,int,int)", "int merged(int,int)", "int enqueue(int,int,boolean)",
        "int free(int)", "int compress(int)", "int release(int)", "int space(int)", "int extent(int,int,int)",
    };
    private static final int[] EXTREMES = {
        Integer.MIN_VALUE, Integer.MIN_VALUE + 1, -501, -1, 0, 1, 2, 3, 9, 10, 11, 12, 15, 16, 17, 19, 20, 21,
        59, 60, 61, 99, 100, 499, 500, 501, Integer.MAX_VALUE - 1, Integer.MAX_VALUE,
    };
    private static int wrong = 0;

    private static void due(String what, Object got, Object want) {
        if (!got.equals(want)) {
            wrong++;
            System.out.println(what + " is " + got + ", due is " + want);
        }
    }

    public static void main(String[] args) throws ReflectiveOperationException {
        due("the class's modifiers", Modifier.toString(DataSets.class.getModifiers()), "public final");
        due("methods", visibleMethods(), new TreeSet<>(Set.of(FACE)));
        due("fields", visibleFields(), new TreeSet<>(Set.of("public static final int NONE")));
        due("constructors", constructors(), new TreeSet<>(Set.of("public DataSets(int)")));
        due("private methods named as public ones", namesakes(), new TreeSet<String>());
        due("what is thrown", thrownByExtremes(), "nothing");
        System.out.println(wrong == 0 ? "the face is as due" : wrong + " things are not as due");
        if (wrong != 0) {
            System.exit(1);
        }
    }

    private static Set<String> visibleMethods() {
        Set<String> seen = new TreeSet<>();
        for (Method m : DataSets.class.getDeclaredMethods()) {
            if (!Modifier.isPrivate(m.getModifiers())) {
                seen.add(signature(m));
            }
        }
        return seen;
    }

    private static String signature(Method m) {
        StringBuilder text = new StringBuilder(m.getReturnType() + " " + m.getName() + "(");
        for (int i = 0; i < m.getParameterCount(); i++) {
            text.append(i == 0 ? "" : ",").append(m.getParameterTypes()[i]);
        }
        String rest = Modifier.toString(m.getModifiers()).equals("public") ? "" : " not only public";
        return text.append(")").append(rest).toString();
    }

    private static Set<String> visibleFields() {
        Set<String> seen = new TreeSet<>();
        for (Field f : DataSets.class.getDeclaredFields()) {
            if (!Modifier.isPrivate(f.getModifiers())) {
                seen.add(Modifier.toString(f.getModifiers()) + " " + f.getType() + " " + f.getName());
            }
        }
        return seen;
    }

    private static Set<String> constructors() {
        Set<String> seen = new TreeSet<>();
        for (Constructor<?> c : DataSets.class.getDeclaredConstructors()) {
            seen.add(c.toString());
        }
        return seen;
    }

    private static Set<String> namesakes() {
        Set<String> publicNames = new TreeSet<>();
        for (String row : FACE) {
            publicNames.add(row.substring(4, row.indexOf('(')));
        }
        Set<String> seen = new TreeSet<>();
        for (Class<?> inside : DataSets.class.getDeclaredClasses()) {
            for (Method m : inside.getDeclaredMethods()) {
                if (publicNames.contains(m.getName())) {
                    seen.add(inside.getName() + "." + m.getName());
                }
            }
        }
        for (Method m : DataSets.class.getDeclaredMethods()) {
            if (Modifier.isPrivate(m.getModifiers()) && publicNames.contains(m.getName())) {
                seen.add(m.getName());
            }
        }
        return seen;
    }

    /** Far more than 512 calls on each object: later answers are free, but none may throw. */
    private static String thrownByExtremes() {
        for (int tracks : EXTREMES) {
            DataSets x = new DataSets(tracks);
            try {
                for (int a : EXTREMES) {
                    for (int b : EXTREMES) {
                        callAll(x, a, b);
                    }
                }
            } catch (RuntimeException e) {
                return e + " on " + tracks + " tracks";
            }
        }
        return "nothing";
    }

    private static void callAll(DataSets x, int a, int b) {
        for (int c : EXTREMES) {
            x.make(a, b, c);
            x.member(a, b, c);
            x.attribute(a, b, c, a);
            x.extent(a, b, c);
        }
        x.enqueue(a, b, (a & 1) == 0);
        x.enqueue(b, a, (b & 1) == 0);
        x.extend(a);
        x.find(a);
        x.track(a, b);
        x.guard(a, b);
        x.merged(a, b);
        x.space(b);
        x.compress(a);
        if ((b & 3) == 0) {
            x.release(b);
            x.rename(a, b);
            x.remove(a, b);
        }
        if (b == 20) {
            x.free(a);
        }
    }
}
