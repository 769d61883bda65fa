import java.lang.reflect.Constructor;
import java.lang.reflect.Field;
import java.lang.reflect.Method;
import java.lang.reflect.Modifier;
import java.util.Set;
import java.util.TreeSet;

/** The public face: the document's members and no other, and what LANGUAGE.md says of the class. */
public final class FaceTest {
    private static final String[] METHODS = {"int corner(long,long)", "long at(int,int)", "int side(int,int,int)",
        "int sure()", "int cross(int,int,int,int)", "int nearest(long,long)", "int draw()", "int add(int)",
        "int close(int,int)", "int where()", "int told(int,int)", "int give(int,int)", "int drop(int)",
        "int split(int,int,int,int)", "int join(int,int)", "int move(int,int,int)", "int border(int,int)",
        "int neighbour(int,int)", "int locate(int,long,long)", "int edge()", "int walk(int,int,int,int)",
        "int hull(int)", "int hullAt(int)", "long twice(int)", "int compare(int,int)", "int quota(int,int)",
        "int undo()", "int count(int)", "long digest()"};
    private static final String[] CONSTANTS = {"NONE=-1", "UNKNOWN=-101", "OUTSIDE=-102", "STATE=-103", "FULL=-104",
        "FEW=-201", "TWICE=-202", "CROSSED=-203", "OVER=-204", "APART=-205"};

    public static void main(String[] args) throws IllegalAccessException {
        Bench.due("the class is final", Modifier.isFinal(ParcelMap.class.getModifiers()) ? 1 : 0, 1);
        methods();
        fields();
        Constructor<?>[] made = ParcelMap.class.getDeclaredConstructors();
        Bench.due("constructors", made.length, 1);
        Bench.due("its parameters", made[0].getParameterCount(), 0);
        for (Class<?> inside : ParcelMap.class.getDeclaredClasses()) {
            privateNames(inside);
            statics(inside);
        }
        Bench.end();
    }

    private static void methods() {
        Set<String> left = new TreeSet<>(Set.of(METHODS));
        for (Method m : ParcelMap.class.getDeclaredMethods()) {
            if (Modifier.isPrivate(m.getModifiers())) {
                continue;
            }
            StringBuilder text = new StringBuilder(m.getReturnType().getName()).append(' ').append(m.getName()).append('(');
            for (Class<?> type : m.getParameterTypes()) {
                text.append(text.charAt(text.length() - 1) == '(' ? "" : ",").append(type.getName());
            }
            text.append(')');
            Bench.due(text + " is of the face", left.remove(text.toString()) ? 1 : 0, 1);
            Bench.due(text + " is public", Modifier.isPublic(m.getModifiers()) ? 1 : 0, 1);
        }
        Bench.due("missing " + left, left.size(), 0);
        privateNames(ParcelMap.class);
    }

    private static void privateNames(Class<?> of) {
        for (Method m : of.getDeclaredMethods()) {
            for (String face : METHODS) {
                boolean same = face.contains(" " + m.getName() + "(");
                Bench.due(m + " bears a name of the face", same && !Modifier.isPublic(m.getModifiers()) ? 1 : 0, 0);
            }
        }
    }

    private static void fields() throws IllegalAccessException {
        Set<String> left = new TreeSet<>(Set.of(CONSTANTS));
        for (Field f : ParcelMap.class.getDeclaredFields()) {
            if (!Modifier.isPrivate(f.getModifiers())) {
                Bench.due(f + " is of the face", left.remove(f.getName() + "=" + f.getInt(null)) ? 1 : 0, 1);
                Bench.due(f + " is public static final", f.getModifiers(),
                        Modifier.PUBLIC | Modifier.STATIC | Modifier.FINAL);
            }
        }
        Bench.due("missing " + left, left.size(), 0);
        statics(ParcelMap.class);
    }

    private static void statics(Class<?> of) {
        for (Field f : of.getDeclaredFields()) {
            if (Modifier.isStatic(f.getModifiers())) {
                Bench.due(f + " is final", Modifier.isFinal(f.getModifiers()) ? 1 : 0, 1);
                Class<?> type = f.getType();
                Bench.due(f + " is int or long", type == int.class || type == long.class ? 1 : 0, 1);
            }
        }
    }
}
