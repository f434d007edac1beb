import java.lang.reflect.Constructor;
import java.lang.reflect.Executable;
import java.lang.reflect.Field;
import java.lang.reflect.Method;
import java.lang.reflect.Modifier;
import java.util.Arrays;
import java.util.TreeSet;

/** The public face, and LANGUAGE.md's rules 1 and 5 as far as the compiled class tells them. */
public final class FaceTest {
    private static final String I = " throws IndexOutOfBoundsException";
    private static final String A = " throws IllegalArgumentException";
    private static final String[] FACE = {
        "int setDeaths(int int)" + I + A,
        "int setRate(int int)" + I + A,
        "int buy(int int int)" + A + " throws IllegalStateException",
        "int die(int)" + I + " throws IllegalStateException",
        "int giveUp(int)" + I + " throws IllegalStateException",
        "int put(int)" + A,
        "int worth(int int)" + A,
        "int price(int int int)" + A,
        "int told(int int)" + I,
        "int count(int)" + I,
        "int alive(int int)" + A,
        "int pass(int)" + A,
        "int foresee(int int)" + A + I,
        "int lasts()",
        "int even()",
        "int affords(int int int)" + A,
        "double mean()",
        "long digest()",
    };

    private FaceTest() {
    }

    public static void main(String[] args) {
        Class<?> face = WidowPennies.class;
        Check.same("the class", "public final", Modifier.toString(face.getModifiers()));
        Check.same("constructors", "[public ()]", constructors(face));
        TreeSet<String> open = new TreeSet<>();
        TreeSet<String> openNames = new TreeSet<>();
        for (Method m : face.getDeclaredMethods()) {
            if (!Modifier.isPrivate(m.getModifiers())) {
                Check.same(m.getName() + " is", "public", Modifier.toString(m.getModifiers()));
                open.add(m.getReturnType().getSimpleName() + " " + m.getName() + parameters(m) + thrown(m));
                openNames.add(m.getName());
            }
        }
        Check.same("the face", new TreeSet<>(Arrays.asList(FACE)), open);
        for (Method m : face.getDeclaredMethods()) {
            if (Modifier.isPrivate(m.getModifiers())) {
                Check.same("private " + m.getName() + " bears a public name", false, openNames.contains(m.getName()));
            }
        }
        for (Field f : face.getDeclaredFields()) {
            Check.same(f.getName() + " is private", true, Modifier.isPrivate(f.getModifiers()));
        }
        noStaticState(face);
        for (Class<?> inside : face.getDeclaredClasses()) {
            Check.same(inside.getName() + " is static", true, Modifier.isStatic(inside.getModifiers()));
            noStaticState(inside);
        }
        Check.end();
    }

    private static void noStaticState(Class<?> c) {
        for (Field f : c.getDeclaredFields()) {
            if (Modifier.isStatic(f.getModifiers())) {
                Check.same(f.getName() + " is final", true, Modifier.isFinal(f.getModifiers()));
            }
        }
    }

    private static String constructors(Class<?> c) {
        TreeSet<String> all = new TreeSet<>();
        for (Constructor<?> k : c.getDeclaredConstructors()) {
            all.add(Modifier.toString(k.getModifiers()) + " " + parameters(k) + thrown(k));
        }
        return all.toString();
    }

    private static String parameters(Executable e) {
        StringBuilder all = new StringBuilder("(");
        for (Class<?> p : e.getParameterTypes()) {
            all.append(all.length() > 1 ? " " : "").append(p.getSimpleName());
        }
        return all.append(")").toString();
    }

    private static String thrown(Executable e) {
        StringBuilder all = new StringBuilder();
        for (Class<?> t : e.getExceptionTypes()) {
            all.append(" throws ").append(t.getSimpleName());
        }
        return all.toString();
    }
}
