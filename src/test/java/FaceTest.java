import java.lang.reflect.Constructor;
import java.lang.reflect.Field;
import java.lang.reflect.Method;
import java.lang.reflect.Modifier;
import java.util.Set;
import java.util.TreeSet;

/** The class has the document's face, and nothing else that is not private. */
public final class FaceTest {
    private static final Set<String> METHODS = Set.of(
        "pile(int,int,int)", "over(int,int,int,int)", "reel(int)", "strip(int)", "sheet(int,int,int,int,int)",
        "lack(int,int)", "clear(int)", "look(int,int,int,int)", "holding(int,int)", "rate(int,int,int)", "extra(int,int)",
        "grams(float)", "price(int,float,int)", "letter(int,float,int)", "pay(int)", "told(int,int)", "given(int,int)",
        "torn(int,int)", "fewest(int)", "least(int)", "day(int)", "gone(int)", "undo()");
    private static final Set<String> CONSTANTS = Set.of(
        "NONE", "OUTSIDE", "BUSY", "FULL", "NOTHING", "CAST", "INDEX", "SIZE");

    public static void main(String[] args) {
        Class<?> c = PostageCounter.class;
        Set<String> methods = new TreeSet<>();
        Set<String> names = new TreeSet<>();
        for (Method one : c.getDeclaredMethods()) {
            if (!Modifier.isPrivate(one.getModifiers())) {
                String text = one.toString();
                methods.add(text.substring(text.indexOf("PostageCounter.") + 15));
                names.add(one.getName());
                Due.is(one + " is public", Modifier.isPublic(one.getModifiers()) ? 1 : 0, 1);
                Due.is(one + " answers an int", one.getReturnType() == int.class ? 1 : 0, 1);
                Due.is(one + " is of the object", Modifier.isStatic(one.getModifiers()) ? 1 : 0, 0);
            }
        }
        for (Method one : c.getDeclaredMethods()) {
            if (Modifier.isPrivate(one.getModifiers())) {
                Due.is(one + " bears a public name", names.contains(one.getName()) ? 1 : 0, 0);
            }
        }
        Due.is("methods", methods.equals(METHODS) ? 1 : 0, 1);
        Set<String> constants = new TreeSet<>();
        for (Field one : c.getDeclaredFields()) {
            if (!Modifier.isPrivate(one.getModifiers())) {
                constants.add(one.getName());
            }
        }
        Due.is("constants", constants.equals(CONSTANTS) ? 1 : 0, 1);
        Constructor<?>[] constructors = c.getDeclaredConstructors();
        Due.is("constructors", constructors.length, 1);
        Due.is("constructor is public", Modifier.isPublic(constructors[0].getModifiers()) ? 1 : 0, 1);
        Due.is("constructor's parameters", constructors[0].getParameterCount(), 0);
        Due.is("class is public and final", c.getModifiers() & (Modifier.PUBLIC | Modifier.FINAL), Modifier.PUBLIC | Modifier.FINAL);
        Due.end("FaceTest");
    }
}
