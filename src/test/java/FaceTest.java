import java.lang.reflect.Constructor;
import java.lang.reflect.Field;
import java.lang.reflect.Method;
import java.lang.reflect.Modifier;
import java.util.Arrays;
import java.util.Set;
import java.util.TreeSet;

/** The public face, and rule 1 of LANGUAGE.md. */
public final class FaceTest {
    private static final Set<String> FACE = new TreeSet<>(Arrays.asList(
        "public static final int WordBreaker.NONE",
        "public WordBreaker()",
        "public boolean WordBreaker.type(long,int)",
        "public boolean WordBreaker.letter(int,int)",
        "public boolean WordBreaker.least(int,int)",
        "public int WordBreaker.patterns()",
        "public int WordBreaker.words()",
        "public int WordBreaker.clear(boolean)",
        "public int WordBreaker.count(boolean)",
        "public int WordBreaker.word()",
        "public int WordBreaker.place(int)",
        "public int WordBreaker.value(int)",
        "public int WordBreaker.text()",
        "public int WordBreaker.size()",
        "public int WordBreaker.out(int)"));

    public static void main(String[] args) {
        Set<String> face = new TreeSet<>();
        Set<String> publicNames = new TreeSet<>();
        Class<?> c = WordBreaker.class;
        for (Field f : c.getDeclaredFields()) {
            if (!Modifier.isPrivate(f.getModifiers())) {
                face.add(f.toString());
            }
        }
        for (Constructor<?> k : c.getDeclaredConstructors()) {
            face.add(k.toString());
        }
        for (Method m : c.getDeclaredMethods()) {
            if (!Modifier.isPrivate(m.getModifiers())) {
                face.add(m.toString());
                publicNames.add(m.getName());
            }
        }
        Check.due("the face", face.toString(), FACE.toString());
        for (Method m : c.getDeclaredMethods()) {
            boolean hidden = Modifier.isPrivate(m.getModifiers());
            Check.due("private with a public name: " + m, hidden && publicNames.contains(m.getName()), false);
        }
        Check.due("modifiers", Modifier.toString(c.getModifiers()), "public final");
        Check.due("classes inside", Arrays.stream(c.getDeclaredClasses())
            .allMatch(d -> Modifier.isStatic(d.getModifiers()) && !Modifier.isPublic(d.getModifiers())), true);
        Check.finish();
    }
}
