import java.lang.reflect.Constructor;
import java.lang.reflect.Field;
import java.lang.reflect.Method;
import java.lang.reflect.Modifier;
import java.util.Set;
import java.util.TreeSet;

/** The class shows the document's face and nothing else (rules 1 and 5 of LANGUAGE.md). */
public final class FaceTest {
    private static final Set<String> FACE = Set.of(
            "public static final int CodeBlocks.NONE",
            "public CodeBlocks()",
            "public boolean CodeBlocks.turn(boolean)",
            "public void CodeBlocks.mending(boolean)",
            "public int CodeBlocks.take(int,long)",
            "public int CodeBlocks.state()",
            "public int CodeBlocks.count(int)",
            "public int CodeBlocks.size()",
            "public int CodeBlocks.byteAt(int)",
            "public int CodeBlocks.put(int)",
            "public int CodeBlocks.send()",
            "public int CodeBlocks.sent(int)");

    private static final Set<String> PUBLIC_NAMES = Set.of(
            "turn", "mending", "take", "state", "count", "size", "byteAt", "put", "send", "sent");

    public static void main(String[] args) {
        Checks checks = new Checks();
        Set<String> seen = new TreeSet<>();
        for (Field f : CodeBlocks.class.getDeclaredFields()) {
            if (!Modifier.isPrivate(f.getModifiers())) {
                seen.add(f.toString());
            }
            boolean loose = Modifier.isStatic(f.getModifiers()) && !Modifier.isFinal(f.getModifiers());
            checks.due("static field that is not final: " + f, loose, false);
        }
        for (Constructor<?> c : CodeBlocks.class.getDeclaredConstructors()) {
            seen.add(c.toString());
        }
        for (Method m : CodeBlocks.class.getDeclaredMethods()) {
            if (!Modifier.isPrivate(m.getModifiers())) {
                seen.add(m.toString());
            } else {
                checks.due("private method " + m, PUBLIC_NAMES.contains(m.getName()), false);
            }
        }
        for (String member : FACE) {
            checks.due("the face has " + member, seen.contains(member), true);
        }
        for (String member : seen) {
            checks.due("the document has " + member, FACE.contains(member), true);
        }
        int modifiers = CodeBlocks.class.getModifiers();
        checks.due("public and final", Modifier.isPublic(modifiers) && Modifier.isFinal(modifiers), true);
        checks.due("NONE", CodeBlocks.NONE, -1L);
        checks.end();
    }
}
