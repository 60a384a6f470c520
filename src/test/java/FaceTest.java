import java.io.IOException;
import java.lang.reflect.Constructor;
import java.lang.reflect.Field;
import java.lang.reflect.Method;
import java.lang.reflect.Modifier;
import java.nio.file.Files;
import java.nio.file.Path;
import java.util.Set;
import java.util.TreeSet;

/** The public face and no more, and the plainest rules of LANGUAGE.md that a text can be searched for. */
public final class FaceTest {
    private static final Set<String> FACE = Set.of(
        "public final class DerDesk",
        "public static final int DerDesk.NONE",
        "public DerDesk()",
        "public int DerDesk.feed(int)",
        "public int DerDesk.parse()",
        "public int DerDesk.offence()",
        "public int DerDesk.nodeCount()",
        "public int DerDesk.tagOf(int)",
        "public int DerDesk.contentAt(int)",
        "public int DerDesk.contentLen(int)",
        "public int DerDesk.parent(int)",
        "public int DerDesk.oidArc(int,int)",
        "public boolean DerDesk.intFits(int)",
        "public int DerDesk.intValue(int)",
        "public void DerDesk.wipe()",
        "public int DerDesk.begin(int)",
        "public int DerDesk.putByte(int)",
        "public int DerDesk.putInt(int)",
        "public int DerDesk.putPart(int)",
        "public int DerDesk.end()",
        "public int DerDesk.out(int)",
        "public int DerDesk.outSize()",
        "public int DerDesk.depth()",
        "public void DerDesk.restart()");

    public static void main(String[] args) throws IOException {
        Check.due("the face", new TreeSet<>(FACE).toString(), face().toString());
        Check.due("NONE", -1, DerDesk.NONE);
        insideClassesAreStaticAndHidden();
        noPrivateMethodBearsAPublicName();
        textKeepsToTheLanguage();
        Check.finish();
    }

    private static Set<String> face() {
        Set<String> seen = new TreeSet<>();
        seen.add(DerDesk.class.toGenericString());
        for (Field field : DerDesk.class.getDeclaredFields()) {
            if (!Modifier.isPrivate(field.getModifiers())) {
                seen.add(field.toString());
            }
        }
        for (Constructor<?> constructor : DerDesk.class.getDeclaredConstructors()) {
            if (!Modifier.isPrivate(constructor.getModifiers())) {
                seen.add(constructor.toString());
            }
        }
        for (Method method : DerDesk.class.getDeclaredMethods()) {
            if (!Modifier.isPrivate(method.getModifiers())) {
                seen.add(method.toString());
            }
        }
        return seen;
    }

    private static void insideClassesAreStaticAndHidden() {
        for (Class<?> inside : DerDesk.class.getDeclaredClasses()) {
            int modifiers = inside.getModifiers();
            boolean hidden = !Modifier.isPublic(modifiers) && !Modifier.isProtected(modifiers);
            Check.due(inside + " is static and hidden", true, Modifier.isStatic(modifiers) && hidden);
        }
    }

    private static void noPrivateMethodBearsAPublicName() {
        Set<String> names = new TreeSet<>();
        for (Method method : DerDesk.class.getMethods()) {
            names.add(method.getName());
        }
        for (Class<?> inside : DerDesk.class.getDeclaredClasses()) {
            for (Method method : inside.getDeclaredMethods()) {
                Check.due(method + " bears a public name", false, names.contains(method.getName()));
            }
        }
    }

    private static void textKeepsToTheLanguage() throws IOException {
        String text = Files.readString(Path.of("src/main/java/DerDesk.java"));
        String[] forbidden = {"import ", "package ", "throw ", "try ", "catch ", "finally", "->", "::",
            "synchronized", "assert ", "Exact(", "System.", "Arrays.", "Integer.", "Long.", "native ", "protected "};
        for (String word : forbidden) {
            Check.due("the text has '" + word + "'", false, text.contains(word));
        }
    }
}
