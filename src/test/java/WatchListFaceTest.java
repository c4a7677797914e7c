import java.lang.reflect.Constructor;
import java.lang.reflect.Field;
import java.lang.reflect.Method;
import java.lang.reflect.Modifier;
import java.util.Set;
import java.util.TreeSet;

/** The class has the document's public face and nothing else that is seen from outside. */
public final class WatchListFaceTest {
    private static final String[] FACE = {
        "boolean set(int,int)",
        "int add(int,int,int,int,int,int,boolean)",
        "int remove(int)",
        "int enable(int,boolean)",
        "int watch()",
        "boolean linked()",
        "boolean raise(int,int)",
        "int work()",
        "int lose()",
        "int tell(int,boolean)",
        "int put(int)",
        "int act(int)",
        "int drop(int)",
        "int arm(int,boolean)",
        "int limit(int,int)",
        "int event(int,int)",
        "int actionAt(int,int)",
        "int count(int)",
    };

    public static void main(String[] args) {
        int flags = WatchList.class.getModifiers();
        Due.is("public", Modifier.isPublic(flags), true);
        Due.is("final", Modifier.isFinal(flags), true);
        methods();
        constructorsAndFields();
        namesInside();
        Due.end();
    }

    private static void methods() {
        Set<String> seen = new TreeSet<>();
        for (Method m : WatchList.class.getDeclaredMethods()) {
            if (!Modifier.isPrivate(m.getModifiers())) {
                seen.add(written(m));
                Due.is(m + " is public", Modifier.isPublic(m.getModifiers()), true);
                Due.is(m + " is static", Modifier.isStatic(m.getModifiers()), false);
            }
        }
        Due.is("methods", seen.size(), FACE.length);
        for (String method : FACE) {
            Due.is(method, seen.contains(method), true);
        }
    }

    private static String written(Method m) {
        StringBuilder line = new StringBuilder(m.getReturnType() + " " + m.getName() + "(");
        String comma = "";
        for (Class<?> type : m.getParameterTypes()) {
            line.append(comma).append(type);
            comma = ",";
        }
        return line.append(')').toString();
    }

    private static void constructorsAndFields() {
        Constructor<?>[] all = WatchList.class.getDeclaredConstructors();
        Due.is("constructors", all.length, 1);
        Due.is("constructor is public", Modifier.isPublic(all[0].getModifiers()), true);
        Due.is("constructor takes nothing", all[0].getParameterCount(), 0);
        for (Field f : WatchList.class.getDeclaredFields()) {
            boolean constant = f.getName().equals("NONE");
            Due.is(f + " is private", Modifier.isPrivate(f.getModifiers()), !constant);
            if (Modifier.isStatic(f.getModifiers())) {
                Due.is(f + " is final", Modifier.isFinal(f.getModifiers()), true);
            }
        }
    }

    private static void namesInside() {
        Set<String> face = new TreeSet<>();
        for (Method m : WatchList.class.getMethods()) {
            face.add(m.getName());
        }
        for (Class<?> inner : WatchList.class.getDeclaredClasses()) {
            Due.is(inner + " is static", Modifier.isStatic(inner.getModifiers()), true);
            for (Method m : inner.getDeclaredMethods()) {
                Due.is(m + " bears a name of the face", face.contains(m.getName()), false);
            }
        }
        for (Method m : WatchList.class.getDeclaredMethods()) {
            boolean own = Modifier.isPrivate(m.getModifiers());
            Due.is(m + " bears a name of the face", own && face.contains(m.getName()), false);
        }
    }
}
