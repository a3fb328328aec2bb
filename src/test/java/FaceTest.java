import java.lang.reflect.Constructor;
import java.lang.reflect.Field;
import java.lang.reflect.Method;
import java.lang.reflect.Modifier;
import java.util.TreeSet;

/** The public face is the document's, and nothing else can be seen from outside. */
public final class FaceTest {
    private static final String[] METHODS = {
        "int bus 1", "int room 1", "int bridge 2", "int idea 4", "int quarrel 3", "int type 1", "int clear 0",
        "int read 0", "int drive 1", "int puts 1", "int undo 0", "int of 2", "int sways 3", "int now 1",
        "int then 2", "int end 1", "int decks 1", "int better 0", "int raise 0", "int upstairs 3", "int note 4",
        "int forget 0", "int is 1", "int look 1", "int fare 1", "int two 3", "int bell 1", "int days 2",
        "long part 1", "int image 1", "int from 1", "int status 1", "int count 1", "long digest 0"};

    public static void main(String[] args) {
        Due.isTrue("public and final", Modifier.isPublic(IdeasDeck.class.getModifiers())
            && Modifier.isFinal(IdeasDeck.class.getModifiers()));
        methods();
        fields();
        constructors();
        classesInside();
        Due.end();
    }

    private static void methods() {
        TreeSet<String> due = new TreeSet<>(java.util.Arrays.asList(METHODS));
        TreeSet<String> publicNames = new TreeSet<>();
        for (Method m : IdeasDeck.class.getDeclaredMethods()) {
            if (m.isSynthetic() || Modifier.isPrivate(m.getModifiers())) continue;
            String told = m.getReturnType() + " " + m.getName() + " " + m.getParameterCount();
            Due.isTrue(told + " is in the document", due.remove(told) && Modifier.isPublic(m.getModifiers()));
            publicNames.add(m.getName());
        }
        Due.isTrue("not there: " + due, due.isEmpty());
        for (Method m : IdeasDeck.class.getDeclaredMethods()) {
            if (!m.isSynthetic() && Modifier.isPrivate(m.getModifiers())) privateName(publicNames, m);
        }
        for (Class<?> inside : IdeasDeck.class.getDeclaredClasses()) {
            for (Method m : inside.getDeclaredMethods()) {
                if (!m.isSynthetic() && Modifier.isPrivate(m.getModifiers())) privateName(publicNames, m);
            }
        }
    }

    private static void privateName(TreeSet<String> publicNames, Method m) {
        Due.isTrue(m + " bears no public name", !publicNames.contains(m.getName()));
    }

    private static void fields() {
        TreeSet<String> due = new TreeSet<>(java.util.List.of("NONE", "BAD", "NO", "FULL"));
        for (Field f : IdeasDeck.class.getDeclaredFields()) {
            if (Modifier.isStatic(f.getModifiers())) {
                Due.isTrue(f + " is final", Modifier.isFinal(f.getModifiers()));
            }
            if (Modifier.isPrivate(f.getModifiers())) continue;
            Due.isTrue(f + " is in the document", due.remove(f.getName()) && Modifier.isPublic(f.getModifiers()));
        }
        Due.isTrue("not there: " + due, due.isEmpty());
        Due.is("NONE", IdeasDeck.NONE, -1);
        Due.is("BAD", IdeasDeck.BAD, -2);
        Due.is("NO", IdeasDeck.NO, -3);
        Due.is("FULL", IdeasDeck.FULL, -4);
    }

    private static void constructors() {
        Constructor<?>[] all = IdeasDeck.class.getDeclaredConstructors();
        Due.is("constructors", all.length, 1);
        Due.isTrue("it is public", Modifier.isPublic(all[0].getModifiers()));
        Due.is("its parameters", all[0].getParameterCount(), 0);
    }

    private static void classesInside() {
        for (Class<?> inside : IdeasDeck.class.getDeclaredClasses()) {
            int modifiers = inside.getModifiers();
            Due.isTrue(inside + " is static", Modifier.isStatic(modifiers));
            Due.isTrue(inside + " is not public", !Modifier.isPublic(modifiers) && !Modifier.isProtected(modifiers));
        }
    }
}
