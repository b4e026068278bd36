import java.lang.reflect.Constructor;
import java.lang.reflect.Field;
import java.lang.reflect.Method;
import java.lang.reflect.Modifier;
import java.util.ArrayList;
import java.util.Arrays;
import java.util.Collections;
import java.util.HashSet;
import java.util.List;
import java.util.Set;

/** The public face, and rules 1, 5 and 11 of LANGUAGE.md as far as reflection shows them. */
public final class FaceTest {
    private static final Class<StateObserver> TYPE = StateObserver.class;
    private static final String[] FACE = {
        "int append(int) IllegalArgumentException IllegalStateException",
        "int clearText()",
        "int errorPosition()",
        "int load() IllegalStateException",
        "int about(int) IllegalArgumentException",
        "int coefficient(int,int,int) IndexOutOfBoundsException IllegalArgumentException",
        "int state(int,int) IndexOutOfBoundsException IllegalArgumentException",
        "int output(int,int) IndexOutOfBoundsException IllegalArgumentException IllegalStateException",
        "int width()",
        "int place(int,int) IndexOutOfBoundsException IllegalStateException",
        "int step(int,int) IllegalArgumentException",
        "int read(int) IndexOutOfBoundsException",
        "int shave(int,int) IndexOutOfBoundsException IllegalArgumentException",
        "int setGain(int,int,int) IndexOutOfBoundsException IllegalArgumentException",
        "int setHold(int) IllegalArgumentException",
        "int setBound(int) IllegalArgumentException",
        "int undo() IllegalStateException",
        "boolean canBe(int,int,int,int) IllegalArgumentException",
        "int widthIf(int,int) IndexOutOfBoundsException IllegalArgumentException",
        "int ahead(int,int,int,boolean) IndexOutOfBoundsException IllegalArgumentException",
        "int earliest(int,int,int,boolean) IndexOutOfBoundsException IllegalArgumentException",
        "int unknown(boolean) IllegalStateException",
        "int rankAfter(int) IllegalArgumentException",
        "int observabilityIndex()",
        "int hiddenDimension(int) IllegalArgumentException",
        "int touched()",
        "int free(int,int) IndexOutOfBoundsException",
        "int freeRange(int,boolean) IndexOutOfBoundsException",
        "int runScript(int,long) IllegalArgumentException",
        "long simulate(long,int) IllegalArgumentException",
        "int save(int) IndexOutOfBoundsException",
        "int restore(int) IndexOutOfBoundsException IllegalStateException",
    };

    public static void main(String[] args) {
        Checks.main(FaceTest.class);
    }

    @Holds(promise = 1, in = "The public face", sentence = "public final class StateObserver {")
    static void theClass(Checks t) {
        t.due("the class's modifiers", TYPE.getModifiers(), Modifier.PUBLIC | Modifier.FINAL);
    }

    @Holds(promise = 1, in = "The public face", sentence = "public StateObserver();")
    static void constructors(Checks t) {
        Constructor<?>[] all = TYPE.getDeclaredConstructors();
        t.due("number of constructors", all.length, 1);
        t.due("the constructor is public", Modifier.isPublic(all[0].getModifiers()), true);
        t.due("the constructor's parameters", all[0].getParameterCount(), 0);
        t.due("the constructor's exceptions", all[0].getExceptionTypes().length, 0);
    }

    @Holds(promise = 2, in = "The public face",
        sentence = "public int append(int c) throws IllegalArgumentException, IllegalStateException;")
    static void methods(Checks t) {
        List<String> open = new ArrayList<>();
        Set<String> openNames = new HashSet<>();
        for (Method m : TYPE.getDeclaredMethods()) {
            if (!Modifier.isPrivate(m.getModifiers()) && !m.isSynthetic()) {
                open.add(described(m));
                openNames.add(m.getName());
            }
        }
        List<String> face = new ArrayList<>(Arrays.asList(FACE));
        Collections.sort(face);
        Collections.sort(open);
        t.due("the public methods", String.join("\n", open), String.join("\n", face));
        List<Class<?>> classes = new ArrayList<>(Arrays.asList(TYPE.getDeclaredClasses()));
        classes.add(TYPE);
        for (Class<?> c : classes) {
            for (Method m : c.getDeclaredMethods()) {
                boolean ofTheFace = c == TYPE && Modifier.isPublic(m.getModifiers());
                t.due(m + " bears a public name", !ofTheFace && openNames.contains(m.getName()), false);
                t.due(m + " has too many parameters", m.getParameterCount() > 7, false);
            }
        }
    }

    /** Whether the document has a method of that name with so many parameters. */
    static boolean isOfTheFace(String name, int parameters) {
        for (String method : FACE) {
            String list = method.substring(method.indexOf('(') + 1, method.indexOf(')'));
            int size = list.isEmpty() ? 0 : list.split(",").length;
            if (method.startsWith(name + "(", method.indexOf(' ') + 1) && size == parameters) {
                return true;
            }
        }
        return name.equals("<init>") && parameters == 0;
    }

    private static String described(Method m) {
        StringBuilder s = new StringBuilder();
        if (m.getModifiers() != Modifier.PUBLIC) {
            s.append(Modifier.toString(m.getModifiers())).append(' ');
        }
        s.append(m.getReturnType().getSimpleName()).append(' ').append(m.getName()).append('(');
        Class<?>[] parameters = m.getParameterTypes();
        for (int i = 0; i < parameters.length; i++) {
            s.append(i == 0 ? "" : ",").append(parameters[i].getSimpleName());
        }
        s.append(')');
        for (Class<?> e : m.getExceptionTypes()) {
            s.append(' ').append(e.getSimpleName());
        }
        return s.toString();
    }

    /** Rules 1, 5 and 11 of LANGUAGE.md, too. */
    @Holds(promise = 1, in = "The public face", sentence = "public static final int NONE = -9;")
    static void fields(Checks t) {
        int own = 0;
        for (Field f : TYPE.getDeclaredFields()) {
            boolean isNone = f.getName().equals("NONE");
            int access = f.getModifiers() & (Modifier.PUBLIC | Modifier.PROTECTED | Modifier.PRIVATE);
            t.due(f + " has the access", access, isNone ? Modifier.PUBLIC : Modifier.PRIVATE);
            if (Modifier.isStatic(f.getModifiers())) {
                t.due(f + " is final", Modifier.isFinal(f.getModifiers()), true);
            } else {
                own++;
            }
        }
        t.due("too many fields", own > 20, false);
    }

    /** Rules 1, 2, 5 and 11 of LANGUAGE.md: what stands inside is no part of the face. */
    @Holds(promise = 1, in = "The public face", sentence = "public final class StateObserver {")
    static void classesInside(Checks t) {
        Class<?>[] inside = TYPE.getDeclaredClasses();
        t.due("too many classes", inside.length > 11, false);
        for (Class<?> c : inside) {
            t.due(c + " is static", Modifier.isStatic(c.getModifiers()), true);
            t.due(c + " is public or protected", Modifier.isPublic(c.getModifiers()) || Modifier.isProtected(c.getModifiers()), false);
            t.due(c + " has too many fields", c.getDeclaredFields().length > 20, false);
            for (Field f : c.getDeclaredFields()) {
                t.due(f + " is static state", Modifier.isStatic(f.getModifiers()) && !Modifier.isFinal(f.getModifiers()), false);
            }
        }
    }
}
