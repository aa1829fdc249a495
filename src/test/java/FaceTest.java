import java.lang.reflect.Constructor;
import java.lang.reflect.Field;
import java.lang.reflect.Method;
import java.lang.reflect.Modifier;
import java.util.TreeSet;

/** The public face: exactly the members that the document lists, with their types, and the constants' values. */
public final class FaceTest {
    private static final String[] METHODS = {
        "int set(int,int)", "int leaf(int,int,int)", "int row(int,long)", "int buy(int,int)", "int bound(int,int,int)",
        "int share(int,int)", "int choose()", "int mix(int)", "int pass(int)", "int of(int,int)", "int blend(int)",
        "int why()", "int count(int)", "long taste(int)", "int mean()", "int cheapest(int)", "int swap(int)",
        "int looser(int)", "int keepsFor()", "int mostGrams()", "int put(long)", "int wipe()", "int fault()",
        "int carryOut()", "int undo()", "int save(int)", "int restore(int)"};
    private static final String[] CONSTANTS = {
        "NO_SUCH=-1", "BAD_VALUE=-2", "BAD_TEXT=-3", "TOO_MANY=-4", "NOT_POSSIBLE=-5", "NONE=-6", "FADE=0", "WEEK=1"};
    private static final Due DUE = new Due();

    public static void main(String[] args) throws IllegalAccessException {
        TreeSet<String> methods = new TreeSet<>();
        TreeSet<String> hidden = new TreeSet<>();
        for (Method method : TeaBlends.class.getDeclaredMethods()) {
            if (Modifier.isPrivate(method.getModifiers())) {
                hidden.add(method.getName());
            } else {
                methods.add(signature(method));
            }
        }
        compare("methods", methods, METHODS);
        TreeSet<String> constants = new TreeSet<>();
        for (Field field : TeaBlends.class.getDeclaredFields()) {
            if (!Modifier.isPrivate(field.getModifiers())) {
                DUE.due(field.getName() + " is a constant", field.getModifiers(),
                    Modifier.PUBLIC | Modifier.STATIC | Modifier.FINAL);
                constants.add(field.getName() + "=" + field.getInt(null));
            }
        }
        compare("constants", constants, CONSTANTS);
        for (Class<?> inside : TeaBlends.class.getDeclaredClasses()) {
            DUE.due(inside + " is private and static", inside.getModifiers() & (Modifier.PRIVATE | Modifier.STATIC),
                Modifier.PRIVATE | Modifier.STATIC);
            for (Method method : inside.getDeclaredMethods()) {
                hidden.add(method.getName());
            }
        }
        for (Method method : TeaBlends.class.getMethods()) {
            DUE.due("a private method " + method.getName(), hidden.contains(method.getName()) ? 1 : 0, 0);
        }
        Constructor<?>[] constructors = TeaBlends.class.getDeclaredConstructors();
        DUE.due("constructors", constructors.length, 1);
        DUE.due("it is public", constructors[0].getModifiers(), Modifier.PUBLIC);
        DUE.due("its parameters", constructors[0].getParameterCount(), 0);
        DUE.due("the class", TeaBlends.class.getModifiers(), Modifier.PUBLIC | Modifier.FINAL);
        DUE.end();
    }

    private static String signature(Method method) {
        StringBuilder signature = new StringBuilder();
        for (Class<?> parameter : method.getParameterTypes()) {
            signature.append(signature.length() == 0 ? "" : ",").append(parameter.getName());
        }
        String modifiers = method.getModifiers() == Modifier.PUBLIC ? "" : Modifier.toString(method.getModifiers()) + " ";
        return modifiers + method.getReturnType().getName() + " " + method.getName() + "(" + signature + ")";
    }

    private static void compare(String what, TreeSet<String> got, String[] want) {
        for (String one : want) {
            DUE.due(what + ", there is " + one, got.remove(one) ? 1 : 0, 1);
        }
        DUE.due(what + " more: " + got, got.size(), 0);
    }
}
