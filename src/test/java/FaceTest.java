import java.lang.reflect.Constructor;
import java.lang.reflect.Field;
import java.lang.reflect.Method;
import java.lang.reflect.Modifier;
import java.util.Set;
import java.util.TreeSet;

/** The public face: just what the document tells, and nothing else that can be seen from outside. */
public final class FaceTest {
    private static final String[] METHODS = {
        "int count(int)", "int clock(int)", "int feed(int,int,int,int,int,int)", "int text()", "int force(int)",
        "int asks(int,int)", "int guest(int,int,int)", "int put(int,int,int)", "int told(int,int)",
        "int manners(int,int,int)", "int dinner(int)", "int minute()", "int act(int)", "int swap(int,int)",
        "int run(int,int)", "int when(int)", "int poker(int,int)", "int forgive(int,int)", "int alarm(int,int)",
        "int change(int,int)", "int bold(int)", "long mean(int)", "int judge(int)", "int kinds(int,int,int)",
        "int turned(int,int)", "int states(int,int,int,int)", "int feared(int)", "int laws(int)", "int film(int,int)",
        "int drawn(int,int)", "long odds(int,int,int,int)", "int image()", "int back()", "int sheet(int,int,int)",
        "int cell(int,int,int)", "int copy(int,int,int,int,int)", "int guestsBy(int,int,int,int)", "int taken(int,int)"};

    public static void main(String[] args) {
        Class<?> c = StalemateDinner.class;
        Check.due("public and final", c.getModifiers() & (Modifier.PUBLIC | Modifier.FINAL), Modifier.PUBLIC | Modifier.FINAL);
        Set<String> want = new TreeSet<>(Set.of(METHODS));
        Set<String> names = new TreeSet<>();
        Set<String> seen = new TreeSet<>();
        for (Method m : c.getDeclaredMethods()) {
            if (Modifier.isPublic(m.getModifiers())) {
                seen.add(told(m));
                names.add(m.getName());
                Check.due(m + " is not static", Modifier.isStatic(m.getModifiers()) ? 1 : 0, 0);
            } else {
                Check.due(m + " is private", Modifier.isPrivate(m.getModifiers()) ? 1 : 0, 1);
            }
        }
        Check.due("methods " + seen, seen.equals(want) ? 1 : 0, 1);
        for (Method m : c.getDeclaredMethods()) {
            if (!Modifier.isPublic(m.getModifiers())) {
                Check.due(m + " bears no public name", names.contains(m.getName()) ? 1 : 0, 0);
            }
        }
        for (Class<?> inner : c.getDeclaredClasses()) {
            Check.due(inner + " is static", Modifier.isStatic(inner.getModifiers()) ? 1 : 0, 1);
            Check.due(inner + " is not public", Modifier.isPublic(inner.getModifiers()) ? 1 : 0, 0);
            for (Method m : inner.getDeclaredMethods()) {
                Check.due(m + " bears no public name", names.contains(m.getName()) ? 1 : 0, 0);
            }
        }
        constants(c);
        Constructor<?>[] constructors = c.getDeclaredConstructors();
        Check.due("one constructor", constructors.length, 1);
        Check.due("of nothing", constructors[0].getParameterCount(), 0);
        Check.due("public", Modifier.isPublic(constructors[0].getModifiers()) ? 1 : 0, 1);
        Check.end();
    }

    private static void constants(Class<?> c) {
        Check.due("NONE", StalemateDinner.NONE, -1);
        Check.due("BAD", StalemateDinner.BAD, -2);
        Check.due("STATE", StalemateDinner.STATE, -3);
        Check.due("FULL", StalemateDinner.FULL, -4);
        Check.due("NO", StalemateDinner.NO, -4611686018427387904L);
        Set<String> open = new TreeSet<>();
        for (Field f : c.getDeclaredFields()) {
            if (!Modifier.isPrivate(f.getModifiers())) {
                open.add(Modifier.toString(f.getModifiers()) + " " + f.getType() + " " + f.getName());
            }
            if (Modifier.isStatic(f.getModifiers())) {
                Check.due(f + " is final", Modifier.isFinal(f.getModifiers()) ? 1 : 0, 1);
            }
        }
        Set<String> want = Set.of("public static final int NONE", "public static final int BAD",
                "public static final int STATE", "public static final int FULL", "public static final long NO");
        Check.due("constants " + open, open.equals(want) ? 1 : 0, 1);
    }

    private static String told(Method m) {
        StringBuilder s = new StringBuilder(m.getReturnType() + " " + m.getName() + "(");
        for (Class<?> type : m.getParameterTypes()) {
            s.append(s.charAt(s.length() - 1) == '(' ? "" : ",").append(type);
        }
        return s.append(")").toString();
    }
}
