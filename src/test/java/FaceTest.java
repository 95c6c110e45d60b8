import java.lang.reflect.Constructor;
import java.lang.reflect.Field;
import java.lang.reflect.Method;
import java.lang.reflect.Modifier;
import java.util.Arrays;
import java.util.NoSuchElementException;
import java.util.Set;
import java.util.TreeSet;

/** The public face: its members and no others, each with the document's types. */
public final class FaceTest {
    private static final Set<String> METHODS = new TreeSet<>(Arrays.asList(
            "int put(int,int,long,int)",
            "long get(int,int)",
            "int next(int,int)",
            "int take(int)",
            "int trigger(int,int,int)",
            "int started(int)",
            "int end(int)",
            "int rewrite(int,int,long)",
            "int delay(int,long)",
            "int cancel(int)",
            "int tick(long)",
            "int unit(int,boolean)",
            "int age(long)",
            "int count(int)"));

    private static String face(Method m) {
        StringBuilder s = new StringBuilder();
        s.append(m.getReturnType().getName()).append(' ').append(m.getName()).append('(');
        for (int i = 0; i < m.getParameterTypes().length; i++) {
            s.append(i == 0 ? "" : ",").append(m.getParameterTypes()[i].getName());
        }
        return s.append(')').toString();
    }

    private static void tellsWhatItThrows(Due due) {
        due.sentence("The public face", "public long get(int queue, int item) throws NoSuchElementException;");
        for (Method m : MonitorQueues.class.getMethods()) {
            if (m.getDeclaringClass() == MonitorQueues.class) {
                Class<?>[] told = m.getExceptionTypes();
                due.is(m.getName() + " tells exceptions", told.length, m.getName().equals("get") ? 1 : 0);
                due.isTrue(m.getName() + " tells no other", told.length == 0
                        || told[0] == NoSuchElementException.class);
            }
        }
    }

    public static void main(String[] args) {
        Due due = new Due();
        due.sentence("The public face", "public final class MonitorQueues {");
        Set<String> open = new TreeSet<>();
        Set<String> names = new TreeSet<>();
        for (Method m : MonitorQueues.class.getDeclaredMethods()) {
            if (!Modifier.isPrivate(m.getModifiers())) {
                open.add(face(m));
                names.add(m.getName());
                due.is(m.getName() + " is public and no static one",
                        m.getModifiers() & (Modifier.PUBLIC | Modifier.STATIC), Modifier.PUBLIC);
            }
        }
        due.is("the methods are those of the document: " + open, METHODS.equals(open) ? 1 : 0, 1);
        for (Method m : MonitorQueues.class.getDeclaredMethods()) {
            if (Modifier.isPrivate(m.getModifiers())) {
                due.is("private " + m.getName() + " bears a public name", names.contains(m.getName()) ? 1 : 0, 0);
            }
        }
        int openFields = 0;
        for (Field f : MonitorQueues.class.getDeclaredFields()) {
            openFields += Modifier.isPrivate(f.getModifiers()) ? 0 : 1;
            if (Modifier.isStatic(f.getModifiers())) {
                due.is(f.getName() + " is final", Modifier.isFinal(f.getModifiers()) ? 1 : 0, 1);
            }
        }
        due.is("fields that are not private", openFields, 1);
        Constructor<?>[] made = MonitorQueues.class.getDeclaredConstructors();
        due.is("constructors", made.length, 1);
        due.is("the constructor is public", Modifier.isPublic(made[0].getModifiers()) ? 1 : 0, 1);
        due.is("the class is public and final",
                MonitorQueues.class.getModifiers() & (Modifier.PUBLIC | Modifier.FINAL),
                Modifier.PUBLIC | Modifier.FINAL);
        due.is("NONE", MonitorQueues.NONE, -1);
        tellsWhatItThrows(due);
        due.finish();
    }
}
