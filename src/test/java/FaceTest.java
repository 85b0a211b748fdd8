import java.lang.reflect.Constructor;
import java.lang.reflect.Field;
import java.lang.reflect.Member;
import java.lang.reflect.Method;
import java.lang.reflect.Modifier;
import java.nio.file.Files;
import java.nio.file.Path;
import java.util.Set;
import java.util.TreeSet;

/** The public face, and those rules of LANGUAGE.md that can be seen from outside or by a word. */
public final class FaceTest {
    private static final Set<String> METHODS = Set.of(
            "public int TrackDisk.write(int,int,byte)",
            "public byte TrackDisk.read(int,int,int) throws java.lang.ArrayIndexOutOfBoundsException",
            "public int TrackDisk.sync()",
            "public void TrackDisk.cut(int,int)",
            "public int TrackDisk.start()",
            "public int TrackDisk.space(int,int)",
            "public int TrackDisk.mend()",
            "public int TrackDisk.poke(int,int,int,int)",
            "public int TrackDisk.wrong(int)",
            "public int TrackDisk.alternate(int)",
            "public int TrackDisk.dump(int)",
            "public int TrackDisk.restore(int,int)",
            "public int TrackDisk.tape(int)",
            "public int TrackDisk.next()",
            "public int TrackDisk.count(int)");

    private static final String[] RULED_OUT = {
        "try", "catch", "finally", "synchronized", "assert", "import", "package", "->", "::", "Exact("
    };

    private static boolean isHidden(Member member) {
        return Modifier.isPrivate(member.getModifiers()) || member.isSynthetic();
    }

    private static void members(Due due) {
        Set<String> seen = new TreeSet<>();
        Set<String> names = new TreeSet<>();
        for (Method m : TrackDisk.class.getDeclaredMethods()) {
            if (!isHidden(m)) {
                seen.add(m.toString());
                names.add(m.getName());
            }
        }
        due.isTrue("the methods are the document's: " + seen, seen.equals(METHODS));
        for (Method m : TrackDisk.class.getDeclaredMethods()) {
            due.isTrue(m + " bears a name of its own", !isHidden(m) || !names.contains(m.getName()));
        }
        for (Field f : TrackDisk.class.getDeclaredFields()) {
            due.isTrue(f + " is private or NONE",
                    isHidden(f) || f.toString().equals("public static final int TrackDisk.NONE"));
            due.isTrue(f + " is final if static",
                    !Modifier.isStatic(f.getModifiers()) || Modifier.isFinal(f.getModifiers()));
        }
        Constructor<?>[] made = TrackDisk.class.getDeclaredConstructors();
        due.isTrue("one constructor", made.length == 1
                && made[0].toString().equals("public TrackDisk(int,int)"));
    }

    private static void classes(Due due) {
        int modifiers = TrackDisk.class.getModifiers();
        due.isTrue("public and final", Modifier.isPublic(modifiers) && Modifier.isFinal(modifiers));
        for (Class<?> inside : TrackDisk.class.getDeclaredClasses()) {
            int m = inside.getModifiers();
            due.isTrue(inside + " is static and not public",
                    Modifier.isStatic(m) && !Modifier.isPublic(m) && !Modifier.isProtected(m));
        }
    }

    private static void words(Due due) throws Exception {
        String text = Files.readString(Path.of("src/main/java/TrackDisk.java"))
                .replaceAll("(?s)/\\*.*?\\*/", " ");
        for (String word : RULED_OUT) {
            boolean plain = Character.isLetter(word.charAt(0)) && Character.isLetter(word.charAt(word.length() - 1));
            boolean there = plain ? text.matches("(?s).*\\b" + word + "\\b.*") : text.contains(word);
            due.isTrue("no " + word + " in TrackDisk.java", !there);
        }
    }

    public static void main(String[] args) throws Exception {
        Due due = new Due();
        members(due);
        classes(due);
        words(due);
        due.end();
    }
}
