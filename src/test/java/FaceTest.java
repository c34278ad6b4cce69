import java.lang.reflect.Constructor;
import java.lang.reflect.Field;
import java.lang.reflect.Method;
import java.lang.reflect.Modifier;
import java.util.Arrays;
import java.util.TreeSet;

/** The public face, and LANGUAGE.md's rule 1. */
public final class FaceTest {
    private static final String[] FACE = {
        "int anew()", "long answer(int)", "long best(int,int)", "int close()", "int count(int)", "int equal(int)",
        "int finished(int)", "int grid(int,int,int)", "int interrupt(int)", "long item(int,int,int,int)",
        "int lay(int,int,int,int)", "int line(int,int,int)", "int note(int)", "int put(int,int,int,long)",
        "int reader(boolean,int,int,int,int)", "int run(int)", "int search(int,int,int,long)",
        "int share(int,int,int,int,int)", "int size(int,int)", "int taken()", "int told(int,int)", "int turn(int)",
        "int way(boolean,int,long,int,int,int)",
    };

    public static void main(String[] args) {
        Due due = new Due();
        due.part("the face");
        TreeSet<String> methods = new TreeSet<>();
        TreeSet<String> names = new TreeSet<>();
        for (Method m : GeoThreads.class.getDeclaredMethods()) {
            if (Modifier.isPrivate(m.getModifiers())) continue;
            due.is("public " + m, Modifier.isPublic(m.getModifiers()) ? 1 : 0, 1);
            due.is("not static " + m, Modifier.isStatic(m.getModifiers()) ? 1 : 0, 0);
            methods.add(m.getReturnType() + " " + m.getName() + types(m.getParameterTypes()));
            names.add(m.getName());
        }
        due.is("the methods " + methods, methods.equals(new TreeSet<>(Arrays.asList(FACE))) ? 1 : 0, 1);
        for (Method m : GeoThreads.class.getDeclaredMethods()) {
            if (Modifier.isPrivate(m.getModifiers())) due.is("name of " + m, names.contains(m.getName()) ? 1 : 0, 0);
        }
        TreeSet<String> fields = new TreeSet<>();
        for (Field f : GeoThreads.class.getDeclaredFields()) {
            if (!Modifier.isPrivate(f.getModifiers())) fields.add(Modifier.toString(f.getModifiers()) + " " + f.getType() + " " + f.getName());
        }
        due.is("the constants " + fields, fields.equals(new TreeSet<>(Arrays.asList(
            "public static final int BAD", "public static final int STATE", "public static final int FULL",
            "public static final int NONE", "public static final long NO"))) ? 1 : 0, 1);
        Constructor<?>[] makers = GeoThreads.class.getDeclaredConstructors();
        due.is("constructors", makers.length, 1);
        due.is("constructor " + makers[0], types(makers[0].getParameterTypes()).equals("(int,int)") ? 1 : 0, 1);
        due.is("class is public final", GeoThreads.class.getModifiers(), Modifier.PUBLIC | Modifier.FINAL);
        for (Class<?> c : GeoThreads.class.getDeclaredClasses()) {
            due.is("static " + c, Modifier.isStatic(c.getModifiers()) ? 1 : 0, 1);
            due.is("not public " + c, c.getModifiers() & (Modifier.PUBLIC | Modifier.PROTECTED), 0);
        }
        due.is("BAD", GeoThreads.BAD, -1);
        due.is("STATE", GeoThreads.STATE, -2);
        due.is("FULL", GeoThreads.FULL, -3);
        due.is("NONE", GeoThreads.NONE, -9);
        due.is("NO", GeoThreads.NO, Long.MIN_VALUE);
        due.end();
    }

    private static String types(Class<?>[] of) {
        StringBuilder all = new StringBuilder("(");
        for (int i = 0; i < of.length; i++) all.append(i == 0 ? "" : ",").append(of[i]);
        return all.append(")").toString();
    }
}
