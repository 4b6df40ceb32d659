import java.lang.reflect.Constructor;
import java.lang.reflect.Field;
import java.lang.reflect.Method;
import java.lang.reflect.Modifier;
import java.util.Arrays;
import java.util.TreeSet;

/** The public face is the document's, and nothing else can be seen. */
final class FaceTest {
    private static final String FACE = "boolean bend(int,int);boolean cut(int);boolean end(int);boolean fall(int);"
        + "boolean feed(int,int,int,int,int);boolean has(int,int);boolean seat(int,boolean);boolean stand(int);"
        + "int byteOut(int);int change(int,int,int);int entity(int);int failure(int);int fault(int);"
        + "int get(int,int,int);int group(int);int input(int,int,int);int load();int look(int);int make(int);"
        + "int pending(int,int);int row(int,int);int save();int set(int,int,int,int);int shown(int);int step();"
        + "int sum();int swap();int text(int);void pace(int)";

    public static void main(String[] args) {
        TreeSet<String> seen = new TreeSet<>();
        TreeSet<String> names = new TreeSet<>();
        for (Method m : WorldEngine.class.getDeclaredMethods()) {
            if (Modifier.isPublic(m.getModifiers())) {
                names.add(m.getName());
                StringBuilder b = new StringBuilder(m.getReturnType().getName()).append(' ').append(m.getName());
                b.append('(');
                for (int i = 0; i < m.getParameterTypes().length; i++) {
                    b.append(i == 0 ? "" : ",").append(m.getParameterTypes()[i].getName());
                }
                seen.add(b.append(')').toString());
            } else {
                Check.yes("private " + m.getName(), Modifier.isPrivate(m.getModifiers()) || m.isSynthetic());
            }
        }
        TreeSet<String> want = new TreeSet<>(Arrays.asList(FACE.split(";")));
        Check.yes("face is " + seen, seen.equals(want));
        Check.yes("public and final", WorldEngine.class.getModifiers() == (Modifier.PUBLIC | Modifier.FINAL));
        Constructor<?>[] made = WorldEngine.class.getDeclaredConstructors();
        Check.due("constructors", made.length, 1);
        Check.yes("public constructor", Modifier.isPublic(made[0].getModifiers()));
        for (Field f : WorldEngine.class.getDeclaredFields()) {
            boolean none = f.getName().equals("NONE");
            Check.yes("field " + f.getName(), none == Modifier.isPublic(f.getModifiers())
                && (none || Modifier.isPrivate(f.getModifiers())));
        }
        for (Class<?> inside : WorldEngine.class.getDeclaredClasses()) {
            Check.yes("static " + inside, Modifier.isStatic(inside.getModifiers()));
            for (Method m : inside.getDeclaredMethods()) {
                Check.no(inside + " has " + m.getName(), names.contains(m.getName()));
            }
        }
        Check.due("NONE", WorldEngine.NONE, -1);
        Check.close("FaceTest");
    }
}
