import java.lang.reflect.Constructor;
import java.lang.reflect.Field;
import java.lang.reflect.Method;
import java.lang.reflect.Modifier;
import java.util.Arrays;
import java.util.TreeSet;

/** The public face, and LANGUAGE.md's rule 1 on it. */
public final class FaceTest {
    private static final String[] FACE = {
        "boolean type(long)", "void wipe()", "char character(int)",
        "int assemble() IllegalArgumentException UnsupportedOperationException IllegalStateException",
        "int encode()", "int octet(int)", "int print() UnsupportedOperationException", "int place()",
        "int functions()", "int function(int,int)", "int instruction(int,int)", "long immediate(int,int)",
    };

    public static void main(String[] args) {
        Class<?> face = StackAssembler.class;
        Expect.same("the class is public and final", face.getModifiers(), Modifier.PUBLIC | Modifier.FINAL);
        TreeSet<String> found = new TreeSet<>();
        for (Method method : face.getDeclaredMethods()) {
            if (!Modifier.isPrivate(method.getModifiers()) && !method.isSynthetic()) {
                Expect.same("modifiers of " + method, method.getModifiers(), Modifier.PUBLIC);
                found.add(written(method));
            }
        }
        Expect.same("methods", found, new TreeSet<>(Arrays.asList(FACE)));
        for (Field field : face.getDeclaredFields()) {
            Expect.same(field + " is private", Modifier.isPrivate(field.getModifiers()), true);
        }
        Constructor<?>[] constructors = face.getDeclaredConstructors();
        Expect.same("constructors", constructors.length, 1);
        Expect.same("the constructor", constructors[0].toString(), "public StackAssembler()");
        for (Class<?> inside : face.getDeclaredClasses()) {
            int modifiers = inside.getModifiers();
            Expect.same(inside + " is static", Modifier.isStatic(modifiers), true);
            Expect.same(inside + " is hidden", Modifier.isPublic(modifiers) || Modifier.isProtected(modifiers), false);
            bearsNoNameOf(face, inside);
        }
        bearsNoNameOf(face, face);
        Expect.finish();
    }

    /** No private method bears the name of a public one. */
    private static void bearsNoNameOf(Class<?> face, Class<?> looked) {
        for (Method method : looked.getDeclaredMethods()) {
            boolean taken = false;
            for (Method open : face.getMethods()) {
                taken = taken || open.getName().equals(method.getName());
            }
            boolean hidden = Modifier.isPrivate(method.getModifiers());
            Expect.same(method + " is private and bears the name of a public one", hidden && taken, false);
        }
    }

    private static String written(Method method) {
        StringBuilder all = new StringBuilder();
        all.append(method.getReturnType()).append(' ').append(method.getName()).append('(');
        String between = "";
        for (Class<?> parameter : method.getParameterTypes()) {
            all.append(between).append(parameter);
            between = ",";
        }
        all.append(')');
        for (Class<?> thrown : method.getExceptionTypes()) {
            all.append(' ').append(thrown.getSimpleName());
        }
        return all.toString();
    }
}
