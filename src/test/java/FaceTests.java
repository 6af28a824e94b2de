import java.lang.reflect.Constructor;
import java.lang.reflect.Field;
import java.lang.reflect.Method;
import java.lang.reflect.Modifier;
import java.util.Set;
import java.util.TreeSet;

/** The class has the document's face and no other member that can be seen from outside. */
public final class FaceTests {
    private static final Set<String> FACE = Set.of(
        "public boolean SignedMill.put(int,long)",
        "public boolean SignedMill.push(int,long)",
        "public boolean SignedMill.spread(int,long,int)",
        "public boolean SignedMill.negate(int,int)",
        "public boolean SignedMill.add(int,int,int)",
        "public boolean SignedMill.take(int,int,int)",
        "public boolean SignedMill.times(int,int,int)",
        "public boolean SignedMill.divide(int,int,int,int,boolean)",
        "public boolean SignedMill.logic(int,int,int,int)",
        "public boolean SignedMill.shift(int,int,int)",
        "public boolean SignedMill.change(int,int,int,int)",
        "public boolean SignedMill.power(int,int,int)",
        "public boolean SignedMill.common(int,int,int)",
        "public boolean SignedMill.inverse(int,int,int)",
        "public boolean SignedMill.modulo(int,int,int,int)",
        "public int SignedMill.compare(int,int)",
        "public int SignedMill.sign(int)",
        "public int SignedMill.length(int)",
        "public int SignedMill.ones(int)",
        "public int SignedMill.lowest(int)",
        "public int SignedMill.word(int,int)");

    public static void main(String[] args) {
        Set<String> seen = new TreeSet<>();
        Set<String> faceNames = new TreeSet<>();
        for (Method method : SignedMill.class.getDeclaredMethods()) {
            if (!Modifier.isPrivate(method.getModifiers())) {
                seen.add(method.toString());
                faceNames.add(method.getName());
            }
        }
        Due.same("the methods", seen, new TreeSet<>(FACE));
        hidden(SignedMill.class, faceNames);
        for (Class<?> inside : SignedMill.class.getDeclaredClasses()) {
            hidden(inside, faceNames);
            Due.same(inside + " is static", Modifier.isStatic(inside.getModifiers()), true);
            Due.same(inside + " is public", Modifier.isPublic(inside.getModifiers()), false);
        }
        for (Field field : SignedMill.class.getDeclaredFields()) {
            Due.same(field + " is private", Modifier.isPrivate(field.getModifiers()), true);
        }
        Constructor<?>[] constructors = SignedMill.class.getDeclaredConstructors();
        Due.same("constructors", constructors.length, 1);
        Due.same("the constructor", constructors[0].toString(), "public SignedMill()");
        Due.same("the class", SignedMill.class.getModifiers(), Modifier.PUBLIC | Modifier.FINAL);
        Due.end("FaceTests");
    }

    /** No private method bears the name of a public one, and static fields are final. */
    private static void hidden(Class<?> owner, Set<String> faceNames) {
        for (Method method : owner.getDeclaredMethods()) {
            if (owner != SignedMill.class || Modifier.isPrivate(method.getModifiers())) {
                Due.same(method + " bears a public name", faceNames.contains(method.getName()), false);
            }
            Due.same(method + " has more than seven parameters", method.getParameterCount() > 7, false);
        }
        for (Field field : owner.getDeclaredFields()) {
            boolean changes = Modifier.isStatic(field.getModifiers()) && !Modifier.isFinal(field.getModifiers());
            Due.same(field + " is static and changes", changes, false);
        }
    }
}
