import java.lang.reflect.Constructor;
import java.lang.reflect.Field;
import java.lang.reflect.Method;
import java.lang.reflect.Modifier;
import java.util.Arrays;
import java.util.Set;
import java.util.TreeSet;
import java.util.stream.Collectors;

/** The public face, and those rules of LANGUAGE.md that a compiled class tells. */
final class FaceTest {
    private static final String INDEX = "IndexOutOfBoundsException";
    private static final String ARGUMENT = "IllegalArgumentException";
    private static final String STATE = "IllegalStateException";

    public static void main(String[] args) {
        methods();
        constant();
        otherMembers();
        staticFields();
        nestedClasses();
        Check.end();
    }

    private static void due(boolean good, String what) {
        Check.same(what, 1, good ? 1 : 0);
    }

    private static String face(String type, String name, String parameters, String... thrown) {
        return type + " " + name + "(" + parameters + ")" + new TreeSet<>(Arrays.asList(thrown));
    }

    private static void methods() {
        Set<String> due = Set.of(
            face("int", "addTeam", "int", ARGUMENT, STATE),
            face("int", "freeze", "int,int,boolean", ARGUMENT, STATE),
            face("int", "set", "int,int", ARGUMENT),
            face("int", "endWeek", "", STATE),
            face("int", "ask", "int,int", INDEX, ARGUMENT, STATE),
            face("int", "exempt", "int", INDEX, STATE),
            face("int", "make", "int,boolean", INDEX, STATE),
            face("int", "giveUp", "int", INDEX, STATE),
            face("int", "lend", "int,int,int,int", INDEX, ARGUMENT, STATE),
            face("int", "repay", "int,int", INDEX, ARGUMENT, STATE),
            face("int", "team", "int,int", INDEX, ARGUMENT),
            face("int", "change", "int,int", INDEX, ARGUMENT),
            face("int", "loan", "int,int", INDEX, ARGUMENT),
            face("int", "waiting", "int", ARGUMENT),
            face("int", "frozen", "int", ARGUMENT),
            face("int", "whole", "int", ARGUMENT),
            face("int", "reason", "int", INDEX),
            face("int", "exemptible", "int", INDEX),
            face("int", "weeksUntil", "int,int", INDEX, ARGUMENT),
            face("int", "lender", "int,int", INDEX, ARGUMENT),
            face("int", "nextThaw", ""),
            face("int", "inBeing", "int", ARGUMENT),
            face("int", "type", "int", ARGUMENT, STATE),
            face("int", "clearCommands", ""),
            face("int", "runCommands", ""),
            face("int", "undo", "", STATE),
            face("long", "digest", ""));
        Set<String> found = new TreeSet<>();
        for (Method m : FreezeCredits.class.getDeclaredMethods()) {
            if (Modifier.isPublic(m.getModifiers())) {
                String parameters = Arrays.stream(m.getParameterTypes()).map(Class::getName)
                        .collect(Collectors.joining(","));
                String[] thrown = Arrays.stream(m.getExceptionTypes()).map(Class::getSimpleName).toArray(String[]::new);
                found.add(face(m.getReturnType().getName(), m.getName(), parameters, thrown));
            }
        }
        due(found.equals(new TreeSet<>(due)), "the public methods, which are " + found);
    }

    private static void constant() {
        Field[] fields = FreezeCredits.class.getFields();
        due(fields.length == 1 && fields[0].getName().equals("NONE"), "NONE is the only public field");
    }

    private static void otherMembers() {
        Class<?> c = FreezeCredits.class;
        due(c.getModifiers() == (Modifier.PUBLIC | Modifier.FINAL), "the class is public and final");
        Constructor<?>[] constructors = c.getDeclaredConstructors();
        due(constructors.length == 1 && Modifier.isPublic(constructors[0].getModifiers())
                && constructors[0].getParameterCount() == 0, "one public constructor without parameters");
        Set<String> names = Arrays.stream(c.getMethods()).map(Method::getName).collect(Collectors.toSet());
        for (Method m : c.getDeclaredMethods()) {
            boolean hidden = Modifier.isPrivate(m.getModifiers());
            due(hidden || Modifier.isPublic(m.getModifiers()), m + " is public or private");
            due(!hidden || !names.contains(m.getName()), m + " does not bear the name of a public one");
        }
        for (Field f : c.getDeclaredFields()) {
            due(Modifier.isPrivate(f.getModifiers()) || f.getName().equals("NONE"), f + " is private");
        }
    }

    private static void staticFields() {
        staticFields(FreezeCredits.class);
        for (Class<?> nested : FreezeCredits.class.getDeclaredClasses()) {
            staticFields(nested);
        }
    }

    private static void staticFields(Class<?> c) {
        for (Field f : c.getDeclaredFields()) {
            if (Modifier.isStatic(f.getModifiers())) {
                due(Modifier.isFinal(f.getModifiers()), f + " is final");
            }
        }
    }

    private static void nestedClasses() {
        Class<?>[] nested = FreezeCredits.class.getDeclaredClasses();
        due(nested.length <= 11, "at most twelve classes");
        for (Class<?> c : nested) {
            due(Modifier.isPrivate(c.getModifiers()) && Modifier.isStatic(c.getModifiers()),
                    c + " is private and static");
            long fields = Arrays.stream(c.getDeclaredFields()).filter(f -> !Modifier.isStatic(f.getModifiers())).count();
            due(fields <= 20, c + " has at most twenty fields");
        }
    }
}
