import java.lang.reflect.Constructor;
import java.lang.reflect.Field;
import java.lang.reflect.Method;
import java.lang.reflect.Modifier;
import java.util.Set;
import java.util.TreeSet;

/** The face has the document's members and no others that can be seen from outside. */
final class FaceTest {

    private static final Set<String> METHODS = new TreeSet<>(Set.of(
        "int feed(long,long,long)", "int table()", "int scheme()", "int why()", "int gives(int,int,int)",
        "int thing(int,int)", "int order()", "int law(int)", "int rows()", "int row(int,int)",
        "long counts(int,int)", "long dual(int,int,int,int)", "int twin()", "int parts()", "int part(int)",
        "int quotient(int)", "int fuses()", "int fusing(int,int)", "int fuse(int)", "int wreath(int)",
        "int kind(int,int,int,int)", "int kinds(int,int)", "int kept(int,int)", "long walks(int,int,int)",
        "int mixed(int)", "boolean undo()", "boolean again()", "boolean mark(int,boolean)", "int count(int)"));

    public static void main(String[] args) {
        Class<?> face = ShareTable.class;
        Check.due("public final", face.getModifiers() & (Modifier.PUBLIC | Modifier.FINAL), Modifier.PUBLIC | Modifier.FINAL);
        Set<String> seen = new TreeSet<>();
        Set<String> names = new TreeSet<>();
        for (Method m : face.getDeclaredMethods()) {
            if (Modifier.isPublic(m.getModifiers())) {
                seen.add(signature(m));
                names.add(m.getName());
            }
        }
        Check.due("public methods are the document's: " + seen, seen.equals(METHODS), true);
        for (Method m : face.getDeclaredMethods()) {
            boolean isPrivate = Modifier.isPrivate(m.getModifiers());
            Check.due(m + " is public or private", isPrivate || Modifier.isPublic(m.getModifiers()), true);
            Check.due(m + " is private with a public one's name", isPrivate && names.contains(m.getName()), false);
        }
        checkFields(face);
        checkInside(face, names);
        Constructor<?>[] constructors = face.getDeclaredConstructors();
        Check.due("constructors", constructors.length, 1);
        Check.due("its parameters", constructors[0].getParameterCount(), 0);
        Check.end("FaceTest");
    }

    private static void checkFields(Class<?> face) {
        for (Field f : face.getDeclaredFields()) {
            boolean isNone = f.getName().equals("NONE");
            Check.due(f + " is private, NONE public", isNone ? Modifier.isPublic(f.getModifiers())
                : Modifier.isPrivate(f.getModifiers()), true);
            Check.due(f + " is final if static", !Modifier.isStatic(f.getModifiers()) || Modifier.isFinal(f.getModifiers()), true);
        }
        Check.due("NONE", ShareTable.NONE, -1);
    }

    private static void checkInside(Class<?> face, Set<String> names) {
        Class<?>[] inside = face.getDeclaredClasses();
        Check.due("some twelve classes", inside.length + 1 <= 13, true);
        for (Class<?> c : inside) {
            Check.due(c + " is static", Modifier.isStatic(c.getModifiers()), true);
            int fields = 0;
            for (Field f : c.getDeclaredFields()) {
                boolean isStatic = Modifier.isStatic(f.getModifiers());
                fields += isStatic ? 0 : 1;
                Check.due(f + " is final if static", !isStatic || Modifier.isFinal(f.getModifiers()), true);
            }
            Check.due(c + " has some twenty fields at most", fields <= 20, true);
            for (Method m : c.getDeclaredMethods()) {
                Check.due(m + " has seven parameters at most", m.getParameterCount() <= 7, true);
                Check.due(m + " bears a public one's name", names.contains(m.getName()), false);
            }
        }
    }

    private static String signature(Method m) {
        StringBuilder text = new StringBuilder(m.getReturnType().getName()).append(' ').append(m.getName()).append('(');
        for (int i = 0; i < m.getParameterCount(); i++) {
            text.append(i == 0 ? "" : ",").append(m.getParameterTypes()[i].getName());
        }
        return text.append(')').toString();
    }
}
