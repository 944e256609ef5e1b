import java.lang.reflect.Constructor;
import java.lang.reflect.Field;
import java.lang.reflect.Member;
import java.lang.reflect.Method;
import java.lang.reflect.Modifier;
import java.util.Set;
import java.util.TreeSet;

/** The public face of the document, and nothing beside it (LANGUAGE.md, rules 1 and 5). */
public final class FaceTest {
    private static final String[] FACE = {
        "public Confroom()",
        "public boolean Confroom.isAsked(int) throws java.util.NoSuchElementException,"
            + "java.lang.IllegalStateException",
        "public boolean Confroom.mute(int) throws java.util.NoSuchElementException",
        "public int Confroom.join() throws java.lang.IllegalStateException",
        "public int Confroom.keys(int) throws java.util.NoSuchElementException,"
            + "java.lang.IllegalStateException",
        "public int Confroom.layer(int,int) throws java.util.NoSuchElementException",
        "public int Confroom.now()",
        "public int Confroom.pass(int) throws java.lang.IllegalArgumentException",
        "public int Confroom.people()",
        "public int Confroom.pin(int,int) throws java.util.NoSuchElementException,"
            + "java.lang.IllegalArgumentException",
        "public int Confroom.seen(int) throws java.util.NoSuchElementException",
        "public int Confroom.seenAt(int,int) throws java.util.NoSuchElementException,"
            + "java.lang.IndexOutOfBoundsException",
        "public int Confroom.sent(int) throws java.util.NoSuchElementException",
        "public int Confroom.setEstimate(int,int) throws java.util.NoSuchElementException,"
            + "java.lang.IllegalArgumentException",
        "public int Confroom.setLevel(int,int) throws java.util.NoSuchElementException,"
            + "java.lang.IllegalArgumentException",
        "public int Confroom.setPlaces(int,int) throws java.util.NoSuchElementException,"
            + "java.lang.IllegalArgumentException",
        "public int Confroom.speaker()",
        "public int Confroom.target(int,int) throws java.util.NoSuchElementException",
        "public int Confroom.targetBySteps(int,int) throws java.util.NoSuchElementException",
        "public static final int Confroom.NONE",
        "public void Confroom.end(int) throws java.util.NoSuchElementException,"
            + "java.lang.IllegalStateException",
        "public void Confroom.leave(int) throws java.util.NoSuchElementException",
        "public void Confroom.publish(int,int,int) throws java.util.NoSuchElementException,"
            + "java.lang.IllegalArgumentException",
        "public void Confroom.setTimes(int,int) throws java.lang.IllegalArgumentException",
    };

    public static void main(String[] args) {
        Set<String> open = new TreeSet<>();
        Set<String> publicNames = new TreeSet<>();
        for (Constructor<?> each : Confroom.class.getDeclaredConstructors()) {
            open.add(each.toGenericString());
        }
        for (Method each : Confroom.class.getDeclaredMethods()) {
            if (Modifier.isPublic(each.getModifiers())) {
                Check.is("a second method " + each.getName(), publicNames.add(each.getName()), true);
            }
            addOpen(open, each, each.toGenericString());
        }
        for (Field each : Confroom.class.getDeclaredFields()) {
            addOpen(open, each, each.toGenericString());
            checkStatic(each);
        }
        Check.same("the face", String.join("\n", open), String.join("\n", FACE));
        Check.is("a final class", Modifier.isFinal(Confroom.class.getModifiers()), true);
        checkPrivateNames(Confroom.class, publicNames);
        for (Class<?> inside : Confroom.class.getDeclaredClasses()) {
            Check.is("static " + inside, Modifier.isStatic(inside.getModifiers()), true);
            Check.is("public " + inside, Modifier.isPublic(inside.getModifiers()), false);
            checkPrivateNames(inside, publicNames);
        }
        Check.end();
    }

    private static void addOpen(Set<String> open, Member member, String text) {
        if (!Modifier.isPrivate(member.getModifiers()) && !member.isSynthetic()) {
            open.add(text);
        }
    }

    private static void checkStatic(Field field) {
        int modifiers = field.getModifiers();
        if (Modifier.isStatic(modifiers)) {
            Check.is("final " + field, Modifier.isFinal(modifiers), true);
        }
    }

    private static void checkPrivateNames(Class<?> in, Set<String> publicNames) {
        for (Method each : in.getDeclaredMethods()) {
            if (!Modifier.isPublic(each.getModifiers())) {
                Check.is("a public name for " + each, publicNames.contains(each.getName()), false);
            }
        }
    }
}
