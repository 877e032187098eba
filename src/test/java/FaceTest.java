import java.lang.reflect.Constructor;
import java.lang.reflect.Field;
import java.lang.reflect.Method;
import java.lang.reflect.Modifier;
import java.util.Set;
import java.util.TreeSet;

/** The public face of the document, and rules 1 and 5 of LANGUAGE.md as far as reflection sees them. */
public final class FaceTest {
    private static final String E = "java.lang.";

    public static void main(String[] args) {
        Checks checks = new Checks("FaceTest");
        checks.due("the class is public and final", PortBills.class.getModifiers(), Modifier.PUBLIC | Modifier.FINAL);
        methods(checks);
        constructors(checks);
        fields(checks, PortBills.class);
        for (Class<?> inside : PortBills.class.getDeclaredClasses()) {
            checks.due(inside + " is static", Modifier.isStatic(inside.getModifiers()), true);
            checks.due(inside + " is not public", Modifier.isPublic(inside.getModifiers()), false);
            checks.due(inside + " is not protected", Modifier.isProtected(inside.getModifiers()), false);
            fields(checks, inside);
        }
        checks.end();
    }

    private static void methods(Checks checks) {
        Set<String> want = new TreeSet<>(Set.of(
            "boolean sign(int)",
            "int read()",
            "int tariff(int,int) throws IllegalArgumentException",
            "int event(int,int,int) throws IllegalArgumentException,IllegalStateException",
            "boolean discount(int,int,int,int)",
            "int bill(int) throws IllegalArgumentException,IllegalStateException",
            "int correct(int,long) throws IllegalArgumentException,IllegalStateException",
            "int dispute(int,boolean) throws IllegalArgumentException",
            "long pay(int,long) throws IllegalArgumentException",
            "long unpaid(int) throws IllegalArgumentException",
            "long share(long,int,int) throws IllegalArgumentException,ArithmeticException",
            "long line(int,int) throws IndexOutOfBoundsException",
            "int count(int)"));
        Set<String> names = new TreeSet<>();
        Set<String> got = new TreeSet<>();
        for (Method method : PortBills.class.getDeclaredMethods()) {
            if (!Modifier.isPrivate(method.getModifiers())) {
                got.add(method.toGenericString().replace("public ", "").replace("PortBills.", "").replace(E, ""));
                names.add(method.getName());
            }
        }
        checks.due("the face " + got + " is " + want, got.equals(want), true);
        for (Method method : PortBills.class.getDeclaredMethods()) {
            if (Modifier.isPrivate(method.getModifiers())) {
                checks.due("a private " + method.getName() + " with a public one's name", names.contains(method.getName()), false);
            }
        }
    }

    private static void constructors(Checks checks) {
        Constructor<?>[] made = PortBills.class.getDeclaredConstructors();
        checks.due("constructors", made.length, 1);
        checks.due("its parameters", made[0].getParameterCount(), 0);
        checks.due("it is public", Modifier.isPublic(made[0].getModifiers()), true);
    }

    private static void fields(Checks checks, Class<?> holder) {
        for (Field field : holder.getDeclaredFields()) {
            int is = field.getModifiers();
            String name = holder.getSimpleName() + "." + field.getName();
            if (Modifier.isStatic(is)) {
                checks.due(name + " is final", Modifier.isFinal(is), true);
            }
            if (holder == PortBills.class) {
                boolean face = field.getName().equals("NONE");
                checks.due(name + " is public", Modifier.isPublic(is), face);
                checks.due(name + " is private", Modifier.isPrivate(is), !face);
            }
        }
    }
}
