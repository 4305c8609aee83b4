import java.lang.reflect.Constructor;
import java.lang.reflect.Field;
import java.lang.reflect.Method;
import java.lang.reflect.Modifier;
import java.util.Arrays;
import java.util.Set;
import java.util.TreeSet;

/** The face: what the document lists is public, and nothing else of the class is to be seen. */
public final class FaceTest {
    private static final String[] METHODS = {
        "int add(int,int,int,int,int)", "int remove(int)", "int change(int,int,int)", "int question(int,int)",
        "int questions()", "int version(int)", "long drop()", "int versions()", "int at(int,int,int)",
        "int where(int,int)", "int choice(int,int,int)", "int alike(int,int,int)", "long unlike(int,int)",
        "int setLines(int)", "int pages(int)", "int page(int,int,int)", "int type(int)", "int clear()",
        "int sheet(int)", "int guess(int,int,int)", "int forget()", "int result(int,int)", "int answer(int,int)",
        "int about(int,int)", "float parting(int)", "float mean()", "int sameWrong(int,int)", "int suspects()",
        "int mistaken(int,int)", "int undo()", "long fingerprint()"};
    private static final Set<String> CONSTANTS = Set.of("BAD", "STATE", "FULL", "NONE");

    private FaceTest() {
    }

    public static void main(String[] args) {
        Class<TestVersions> face = TestVersions.class;
        Check.due("modifiers of the class", face.getModifiers(), Modifier.PUBLIC | Modifier.FINAL);
        Check.holds("the class extends nothing", face.getSuperclass() == Object.class && face.getInterfaces().length == 0);
        checkMethods(face);
        checkConstants(face);
        Constructor<?>[] constructors = face.getDeclaredConstructors();
        Check.due("the number of constructors", constructors.length, 1);
        Check.holds("the constructor is public and takes nothing",
                constructors[0].getModifiers() == Modifier.PUBLIC && constructors[0].getParameterCount() == 0);
        for (Class<?> inside : face.getDeclaredClasses()) {
            Check.holds(inside + " is neither public nor protected",
                    (inside.getModifiers() & (Modifier.PUBLIC | Modifier.PROTECTED)) == 0);
            checkNames(inside);
        }
        Check.end("FaceTest");
    }

    private static void checkMethods(Class<?> face) {
        Set<String> open = new TreeSet<>();
        Set<String> names = new TreeSet<>();
        Set<String> hidden = new TreeSet<>();
        for (Method method : face.getDeclaredMethods()) {
            if (Modifier.isPrivate(method.getModifiers())) {
                hidden.add(method.getName());
                continue;
            }
            Check.due("modifiers of " + method, method.getModifiers(), Modifier.PUBLIC);
            String types = Arrays.toString(method.getParameterTypes()).replaceAll("[\\[\\] ]", "");
            open.add(method.getReturnType() + " " + method.getName() + "(" + types + ")");
            names.add(method.getName());
        }
        Check.holds("the methods are those of the document: " + open, open.equals(new TreeSet<>(Arrays.asList(METHODS))));
        hidden.retainAll(names);
        Check.holds("no private method is named like a public one: " + hidden, hidden.isEmpty());
    }

    private static void checkConstants(Class<?> face) {
        Set<String> open = new TreeSet<>();
        for (Field field : face.getDeclaredFields()) {
            if (!Modifier.isPrivate(field.getModifiers())) {
                open.add(field.getName());
                Check.holds(field + " is a public constant int", field.getType() == int.class
                        && field.getModifiers() == (Modifier.PUBLIC | Modifier.STATIC | Modifier.FINAL));
            } else if (Modifier.isStatic(field.getModifiers())) {
                Check.holds(field + " is final", Modifier.isFinal(field.getModifiers()));
            }
        }
        Check.holds("the constants are those of the document: " + open, open.equals(new TreeSet<>(CONSTANTS)));
        Check.due("BAD", TestVersions.BAD, -1001);
        Check.due("STATE", TestVersions.STATE, -1002);
        Check.due("FULL", TestVersions.FULL, -1003);
        Check.due("NONE", TestVersions.NONE, -1009);
    }

    private static void checkNames(Class<?> inside) {
        for (Method method : inside.getDeclaredMethods()) {
            Check.holds(method + " takes at most seven parameters", method.getParameterCount() <= 7);
            for (String due : METHODS) {
                Check.holds(method + " is not private and named like a public one",
                        !Modifier.isPrivate(method.getModifiers()) || !due.contains(" " + method.getName() + "("));
            }
        }
    }
}
