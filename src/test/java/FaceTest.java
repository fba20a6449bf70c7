import java.lang.reflect.Constructor;
import java.lang.reflect.Field;
import java.lang.reflect.Member;
import java.lang.reflect.Method;
import java.lang.reflect.Modifier;
import java.util.ArrayList;
import java.util.Arrays;
import java.util.List;

/** The section "The public face", and rule 1 of LANGUAGE.md: just these members, all others private. */
public final class FaceTest {
    private static final String[] FACE = {
        "public DeskMachine()",
        "public boolean DeskMachine.burn(int,int,int) throws java.lang.IllegalArgumentException",
        "public boolean DeskMachine.poke(int,int) throws java.lang.IllegalArgumentException",
        "public int DeskMachine.about(int)",
        "public int DeskMachine.disk(int,int) throws java.lang.IllegalArgumentException",
        "public int DeskMachine.key(int) throws java.lang.IllegalArgumentException,java.lang.IllegalStateException",
        "public int DeskMachine.peek(int) throws java.lang.IllegalArgumentException",
        "public int DeskMachine.register(int)",
        "public int DeskMachine.run(int) throws java.lang.IllegalArgumentException",
        "public int DeskMachine.shown(int)",
        "public static final int DeskMachine.NONE",
    };

    public static void main(String[] args) {
        Class<?> face = DeskMachine.class;
        Trial.due("public and final", face.getModifiers(), Modifier.PUBLIC | Modifier.FINAL);
        List<String> seen = new ArrayList<>();
        for (Constructor<?> c : face.getDeclaredConstructors()) {
            add(seen, c, c.toString());
        }
        for (Method m : face.getDeclaredMethods()) {
            add(seen, m, m.toString());
        }
        for (Field f : face.getDeclaredFields()) {
            add(seen, f, f.toString());
        }
        String[] got = seen.toArray(new String[0]);
        Arrays.sort(got);
        Trial.due("the face", String.join("\n", got), String.join("\n", FACE));
        for (Class<?> inside : face.getDeclaredClasses()) {
            Trial.due(inside + " is static", Modifier.isStatic(inside.getModifiers()), true);
            Trial.due(inside + " is no part of the face",
                    Modifier.isPublic(inside.getModifiers()) || Modifier.isProtected(inside.getModifiers()), false);
        }
        Trial.end();
    }

    private static void add(List<String> seen, Member member, String text) {
        if (!Modifier.isPrivate(member.getModifiers()) && !member.isSynthetic()) {
            seen.add(text);
        }
    }
}
