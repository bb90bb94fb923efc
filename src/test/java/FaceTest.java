import java.lang.reflect.Field;
import java.lang.reflect.Member;
import java.lang.reflect.Method;
import java.lang.reflect.Modifier;
import java.nio.file.Files;
import java.nio.file.Path;
import java.util.ArrayList;
import java.util.Arrays;
import java.util.List;
import java.util.TreeSet;

/** The public face is the document's and no more, and the source keeps to the words of LANGUAGE.md. */
final class FaceTest {
    private static final Check CHECK = new Check();
    private static final String[] FACE = {
        "int feed(int,int,int,int,int)", "int cut(int)", "int seal(int,int,int,int)", "boolean card(int,int)",
        "boolean writable(int,boolean)", "boolean put(int,int)", "boolean finger(int)", "void door(boolean)", "int disk()",
        "boolean noDisk()", "boolean key(int)", "boolean tick(int)", "boolean cutAt(int)", "int poll()", "int show(int)",
        "int record(int,int)", "int size(int,int)", "int at(int,int,int)", "int diskAt(int)"
    };
    private static final String[] FORBIDDEN = {
        "throw", "throws", "try", "catch", "synchronized", "assert", "import", "package", "protected", "native", "volatile",
        "->", "::", "hashCode", "Object", "Random", "Thread", "currentTimeMillis", "nanoTime"
    };

    public static void main(String[] args) throws Exception {
        face();
        nestedClasses();
        source(Files.readString(Path.of("src/main/java/StationHouse.java")));
        CHECK.end();
    }

    private static boolean isShown(Member member) {
        return !Modifier.isPrivate(member.getModifiers()) && !member.isSynthetic();
    }

    private static void face() {
        Class<?> face = StationHouse.class;
        CHECK.due("public and final", face.getModifiers(), Modifier.PUBLIC | Modifier.FINAL);
        TreeSet<String> shown = new TreeSet<>();
        TreeSet<String> names = new TreeSet<>();
        for (Method m : face.getDeclaredMethods()) {
            if (isShown(m)) {
                CHECK.due(m + " is public", m.getModifiers(), Modifier.PUBLIC);
                names.add(m.getName());
                List<String> types = new ArrayList<>();
                for (Class<?> type : m.getParameterTypes()) {
                    types.add(type.getName());
                }
                shown.add(m.getReturnType().getName() + " " + m.getName() + "(" + String.join(",", types) + ")");
            }
        }
        CHECK.due("the document's methods", shown.equals(new TreeSet<>(Arrays.asList(FACE))), true);
        for (Method m : face.getDeclaredMethods()) {
            CHECK.due(m + " has a public one's name", !isShown(m) && names.contains(m.getName()), false);
            CHECK.due(m + ": at most seven parameters", m.getParameterCount() <= 7, true);
        }
        CHECK.due("constructors", face.getDeclaredConstructors().length, 1);
        CHECK.due("public constructor", face.getConstructors().length, 1);
        for (Field f : face.getDeclaredFields()) {
            CHECK.due(f + " is shown", isShown(f), f.getName().equals("NONE"));
            CHECK.due(f + ": static fields are final", Modifier.isStatic(f.getModifiers()) && !Modifier.isFinal(f.getModifiers()), false);
        }
    }

    private static void nestedClasses() {
        Class<?>[] nested = StationHouse.class.getDeclaredClasses();
        CHECK.due("at most twelve classes", nested.length < 12, true);
        for (Class<?> c : nested) {
            CHECK.due(c + " is static", Modifier.isStatic(c.getModifiers()), true);
            CHECK.due(c + " is not public", Modifier.isPublic(c.getModifiers()), false);
        }
    }

    private static void source(String text) {
        String code = text.replaceAll("(?s)/\\*.*?\\*/", "").replaceAll("//[^\n]*", "");
        for (String word : FORBIDDEN) {
            boolean isWord = Character.isLetter(word.charAt(0));
            String pattern = isWord ? "(?s).*\\b" + word + "\\b.*" : "(?s).*" + word + ".*";
            CHECK.due("source has " + word, code.matches(pattern), false);
        }
        for (int i = 0; i < text.length(); i++) {
            CHECK.due("character " + i, text.charAt(i) < 128, true);
        }
    }
}
