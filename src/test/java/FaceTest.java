import java.lang.reflect.Constructor;
import java.lang.reflect.Field;
import java.lang.reflect.Method;
import java.lang.reflect.Modifier;
import java.util.Set;
import java.util.TreeSet;

/** The public face is the document's and nothing more, and LANGUAGE.md's rules that the compiled class shows. */
public final class FaceTest {
    private static final Check c = new Check();
    private static final String[] FACE = {
        "int row(int,int,int)", "int miss(int)", "int share(int,int)", "int put(int,int,long)", "long item(int,int)",
        "int about(int,int)", "int thing(int)", "int of(int,int)", "int routine(int)", "int op(int,int,int,int)",
        "int guard(int,int,int,int,int)", "int last(int,int)", "int run(int,long,long)", "long result()",
        "int told(int)", "long number()", "long output(int)", "int count(int,int)", "int forget()"};

    public static void main(String[] args) {
        c.due("NONE", StoryClasses.NONE, -1);
        c.due("BAD", StoryClasses.BAD, -1000000);
        c.due("FULL", StoryClasses.FULL, -1000001);
        c.due("public final", StoryClasses.class.getModifiers(), Modifier.PUBLIC | Modifier.FINAL);
        methods();
        fields();
        nested();
        c.end();
    }

    private static void yes(String what, boolean is) {
        c.due(what, is ? 1 : 0, 1);
    }

    private static void methods() {
        Set<String> due = new TreeSet<>(Set.of(FACE));
        Set<String> names = new TreeSet<>();
        for (String told : FACE) {
            names.add(told.substring(told.indexOf(' ') + 1, told.indexOf('(')));
        }
        for (Method m : StoryClasses.class.getDeclaredMethods()) {
            StringBuilder told = new StringBuilder(m.getReturnType() + " " + m.getName() + "(");
            for (Class<?> p : m.getParameterTypes()) {
                told.append(told.charAt(told.length() - 1) == '(' ? "" : ",").append(p);
            }
            told.append(')');
            if (Modifier.isPrivate(m.getModifiers())) {
                yes(m.getName() + " is no public name", !names.contains(m.getName()));
            } else {
                yes(told + " is of the face", due.remove(told.toString()));
                c.due(told + " is public alone", m.getModifiers(), Modifier.PUBLIC);
            }
        }
        c.due("methods that lack: " + due, due.size(), 0);
        Constructor<?>[] made = StoryClasses.class.getDeclaredConstructors();
        c.due("constructors", made.length, 1);
        c.due("its numbers", made[0].getParameterCount(), 0);
        yes("it is public", Modifier.isPublic(made[0].getModifiers()));
    }

    private static void fields() {
        int open = 0;
        for (Field f : StoryClasses.class.getDeclaredFields()) {
            if (!Modifier.isPrivate(f.getModifiers())) {
                open++;
                yes(f.getName(), f.getType() == int.class && Set.of("NONE", "BAD", "FULL").contains(f.getName()));
            }
        }
        c.due("constants of the face", open, 3);
    }

    private static void nested() {
        Class<?>[] inside = StoryClasses.class.getDeclaredClasses();
        yes("at most twelve classes", inside.length < 12);
        for (Class<?> k : inside) {
            int how = k.getModifiers();
            yes(k + " is static", Modifier.isStatic(how));
            yes(k + " is not open", !Modifier.isPublic(how) && !Modifier.isProtected(how));
            int own = 0;
            for (Field f : k.getDeclaredFields()) {
                boolean fixed = Modifier.isStatic(f.getModifiers());
                own += fixed ? 0 : 1;
                yes(k + "." + f.getName() + " is final if static", !fixed || Modifier.isFinal(f.getModifiers()));
            }
            yes(k + " has some twenty fields", own <= 20);
            for (Method m : k.getDeclaredMethods()) {
                yes(k + "." + m.getName() + " takes at most seven", m.getParameterCount() <= 7);
            }
        }
    }
}
