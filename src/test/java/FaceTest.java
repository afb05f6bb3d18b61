import java.lang.reflect.Constructor;
import java.lang.reflect.Field;
import java.lang.reflect.Method;
import java.lang.reflect.Modifier;
import java.util.Arrays;
import java.util.Set;
import java.util.TreeSet;
import java.util.stream.Collectors;

/** The public face: every constant, constructor and method of the document, and no other. */
public final class FaceTest {
    private static final String[] DUE = {
        "boolean point(int,int)", "boolean press(boolean)", "boolean wheel(int)",
        "boolean key(int,boolean)", "boolean letter(int)",
        "int begin() IllegalStateException", "int end() IllegalStateException",
        "boolean window(int,int,int,int,int) IllegalArgumentException IllegalStateException",
        "boolean open(int) IllegalArgumentException IllegalStateException",
        "boolean popup(int,int,int) IllegalArgumentException IllegalStateException",
        "boolean dismiss()", "int close() IllegalStateException",
        "boolean button(int,int) IllegalArgumentException IllegalStateException",
        "int check(int) IllegalArgumentException IllegalStateException",
        "int slider(int,int,int,int) IllegalArgumentException IllegalStateException",
        "int field(int,int) IllegalArgumentException IllegalStateException",
        "boolean tree(int,int) IllegalArgumentException IllegalStateException",
        "void child(int,int,int) IllegalArgumentException IllegalStateException",
        "void scope(int) IllegalArgumentException IllegalStateException",
        "void group() IllegalStateException", "void near() IllegalStateException",
        "int look(int)", "int place(int,int)", "int kept(int)", "int text(int,int)",
        "int drawn(int)", "int command(int,int)", "int index(int)", "int vertex(int,int)",
    };

    public static void main(String[] args) throws ReflectiveOperationException {
        Class<PanelFrames> face = PanelFrames.class;
        Checks.yes("public and final", Modifier.isPublic(face.getModifiers()) && Modifier.isFinal(face.getModifiers()));
        Checks.same("NONE", face.getField("NONE").getInt(null), -1);
        methods(face);
        fields(face);
        constructors(face);
        nested(face);
        Checks.finish("FaceTest");
    }

    private static String names(Class<?>[] types, String between) {
        return Arrays.stream(types).map(Class::getSimpleName).collect(Collectors.joining(between));
    }

    private static String told(Method method) {
        String call = method.getReturnType().getSimpleName() + " " + method.getName()
            + "(" + names(method.getParameterTypes(), ",") + ")";
        return (call + " " + names(method.getExceptionTypes(), " ")).trim();
    }

    private static void methods(Class<?> face) {
        Set<String> due = new TreeSet<>(Arrays.asList(DUE));
        Set<String> publicNames = new TreeSet<>();
        Set<String> privateNames = new TreeSet<>();
        Set<String> got = new TreeSet<>();
        for (Method method : face.getDeclaredMethods()) {
            if (Modifier.isPrivate(method.getModifiers())) {
                privateNames.add(method.getName());
            } else {
                Checks.yes(method + " is public", Modifier.isPublic(method.getModifiers()));
                publicNames.add(method.getName());
                got.add(told(method));
            }
        }
        for (String method : due) {
            Checks.yes(method + " is there", got.contains(method));
        }
        for (String method : got) {
            Checks.yes(method + " is in the document", due.contains(method));
        }
        privateNames.retainAll(publicNames);
        Checks.same("private methods with a public name: " + privateNames, privateNames.size(), 0);
    }

    private static void fields(Class<?> face) {
        for (Field field : face.getDeclaredFields()) {
            boolean isNone = field.getName().equals("NONE");
            Checks.yes(field + " is private, or NONE", isNone != Modifier.isPrivate(field.getModifiers()));
            boolean isStatic = Modifier.isStatic(field.getModifiers());
            Checks.yes(field + " is no static state", !isStatic || Modifier.isFinal(field.getModifiers()));
        }
    }

    private static void constructors(Class<?> face) {
        Constructor<?>[] all = face.getDeclaredConstructors();
        Checks.same("one constructor", all.length, 1);
        Checks.yes("it is public", Modifier.isPublic(all[0].getModifiers()));
        Checks.same("without parameters", all[0].getParameterCount(), 0);
    }

    private static void nested(Class<?> face) {
        for (Class<?> inside : face.getDeclaredClasses()) {
            int modifiers = inside.getModifiers();
            boolean isShown = Modifier.isPublic(modifiers) || Modifier.isProtected(modifiers);
            Checks.no(inside + " is public or protected", isShown);
        }
    }
}
