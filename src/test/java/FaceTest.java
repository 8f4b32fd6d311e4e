import java.lang.reflect.Constructor;
import java.lang.reflect.Field;
import java.lang.reflect.Method;
import java.lang.reflect.Modifier;
import java.util.Set;
import java.util.TreeSet;

/** The public face: the members that the document names, and no other that can be seen. */
public final class FaceTest {
    public static void main(String[] args) {
        Check check = new Check();
        check.due("the class's modifiers", RescueDesk.class.getModifiers(), Modifier.PUBLIC | Modifier.FINAL);
        check.due("NONE", RescueDesk.NONE, -1);
        check.due("the fields", visibleFields().toString(), "[public static final int NONE]");
        check.due("the constructors", visibleConstructors().toString(), "[public RescueDesk()]");
        check.due("the methods", String.join("\n", visibleMethods()), String.join("\n", namedMethods()));
        check.due("methods that bear a public one's name", hiddenNamesakes().toString(), "[]");
        for (Class<?> inside : RescueDesk.class.getDeclaredClasses()) {
            int kind = inside.getModifiers();
            check.due(inside + " is static and not seen", Modifier.isStatic(kind)
                    && !Modifier.isPublic(kind) && !Modifier.isProtected(kind), true);
        }
        check.end();
    }

    private static Set<String> namedMethods() {
        String argument = "java.lang.IllegalArgumentException";
        String state = "java.lang.IllegalStateException";
        String both = argument + "," + state;
        Set<String> named = new TreeSet<>();
        named.add("public void RescueDesk.source(int) throws " + argument);
        named.add("public void RescueDesk.sector(int,int,int) throws " + argument);
        named.add("public void RescueDesk.begin(int) throws " + both);
        named.add("public int RescueDesk.step() throws " + state);
        named.add("public int RescueDesk.run(int) throws " + both);
        named.add("public int RescueDesk.save() throws " + state);
        named.add("public int RescueDesk.stop(int) throws " + both);
        named.add("public int RescueDesk.resume() throws " + state);
        named.add("public void RescueDesk.poke(int,int,int) throws " + argument);
        named.add("public boolean RescueDesk.second(int,int) throws " + both);
        named.add("public int RescueDesk.state(int)");
        named.add("public int RescueDesk.count(int)");
        named.add("public int RescueDesk.part(int,int)");
        named.add("public int RescueDesk.phase()");
        named.add("public int RescueDesk.out(int)");
        named.add("public int RescueDesk.reads(int)");
        named.add("public int RescueDesk.made(boolean)");
        named.add("public int RescueDesk.image(int,int)");
        return named;
    }

    private static Set<String> visibleFields() {
        Set<String> seen = new TreeSet<>();
        for (Field field : RescueDesk.class.getDeclaredFields()) {
            if (!Modifier.isPrivate(field.getModifiers())) {
                seen.add(Modifier.toString(field.getModifiers()) + " " + field.getType() + " " + field.getName());
            }
        }
        return seen;
    }

    private static Set<String> visibleConstructors() {
        Set<String> seen = new TreeSet<>();
        for (Constructor<?> constructor : RescueDesk.class.getDeclaredConstructors()) {
            if (!Modifier.isPrivate(constructor.getModifiers())) {
                seen.add(constructor.toString());
            }
        }
        return seen;
    }

    private static Set<String> visibleMethods() {
        Set<String> seen = new TreeSet<>();
        for (Method method : RescueDesk.class.getDeclaredMethods()) {
            if (!Modifier.isPrivate(method.getModifiers())) {
                seen.add(method.toString());
            }
        }
        return seen;
    }

    private static Set<String> hiddenNamesakes() {
        Set<String> open = new TreeSet<>();
        for (Method method : RescueDesk.class.getDeclaredMethods()) {
            if (Modifier.isPublic(method.getModifiers())) {
                open.add(method.getName());
            }
        }
        Set<String> namesakes = new TreeSet<>();
        for (Method method : RescueDesk.class.getDeclaredMethods()) {
            if (Modifier.isPrivate(method.getModifiers()) && open.contains(method.getName())) {
                namesakes.add(method.toString());
            }
        }
        return namesakes;
    }
}
