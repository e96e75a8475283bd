import java.lang.reflect.Constructor;
import java.lang.reflect.Field;
import java.lang.reflect.Method;
import java.lang.reflect.Modifier;
import java.nio.file.Files;
import java.nio.file.Path;
import java.util.List;
import java.util.Set;
import java.util.TreeSet;
import java.util.regex.Matcher;
import java.util.regex.Pattern;

/** The public face as the document has it, and what of LANGUAGE.md can be seen from outside. */
public final class FaceTest {
    private static final Due due = new Due("FaceTest");
    private static final String INT = "int ";
    private static final String[] FACE = {
        "row int int int", "set int int long", "copy int int int int int", "holds int", "show int int", "says int int",
        "pupil int int int", "likes int int boolean", "pair int int", "part int", "ask int int", "feed int", "wipe", "list",
        "pupilOf int int", "common int int", "will int int", "over int", "still int int", "again int int", "lost int int",
        "paired int", "left", "best int", "same int", "may", "fridays", "tongue", "first int int", "mean", "weakest int",
        "with int", "near int int", "lasts int", "wish int", "asPair int int int", "wanted int", "bears int int int",
        "drift int int", "alike", "keen", "owing", "meant int int int", "judge int int", "behind int int int",
        "done int int", "weeks int", "anew", "seed int", "image", "back", "status int"};
    private static final List<String> FORBIDDEN = List.of("package", "import", "throw", "throws", "try", "catch", "finally",
        "synchronized", "assert", "var", "Object", "System.out", "equals", "hashCode", "toString", "float", "double", "volatile",
        "->", "::", "@");

    public static void main(String[] args) throws Exception {
        face();
        members();
        source();
        due.end();
    }

    private static String told(Method m) {
        StringBuilder told = new StringBuilder(m.getReturnType() + " " + m.getName());
        for (Class<?> type : m.getParameterTypes()) {
            told.append(' ').append(type);
        }
        return told.toString();
    }

    private static void face() throws Exception {
        Set<String> want = new TreeSet<>(Set.of("long element int int"));
        for (String method : FACE) {
            want.add(INT + method);
        }
        Set<String> got = new TreeSet<>();
        for (Method m : DearPenFriend.class.getDeclaredMethods()) {
            if (!Modifier.isPrivate(m.getModifiers())) {
                due.is("modifiers of " + m, m.getModifiers(), Modifier.PUBLIC);
                got.add(told(m));
            }
        }
        due.is("methods " + got, got.equals(want) ? 1 : 0, 1);
        due.is("how many methods", got.size(), 53);
        Constructor<?>[] made = DearPenFriend.class.getDeclaredConstructors();
        due.is("constructors", made.length, 1);
        due.is("modifiers of the constructor", made[0].getModifiers(), Modifier.PUBLIC);
        due.is("its parameters", made[0].getParameterCount(), 0);
        due.is("NONE", DearPenFriend.NONE, -1);
        due.is("modifiers of NONE", DearPenFriend.class.getField("NONE").getModifiers(), Modifier.PUBLIC | Modifier.STATIC | Modifier.FINAL);
        due.is("modifiers of the class", DearPenFriend.class.getModifiers(), Modifier.PUBLIC | Modifier.FINAL);
    }

    private static void members() {
        Set<String> open = new TreeSet<>();
        for (Method m : DearPenFriend.class.getDeclaredMethods()) {
            if (Modifier.isPublic(m.getModifiers())) {
                open.add(m.getName());
            }
        }
        for (Field f : DearPenFriend.class.getDeclaredFields()) {
            due.is("private: " + f, f.getName().equals("NONE") || Modifier.isPrivate(f.getModifiers()) ? 1 : 0, 1);
            due.is("final, if static: " + f, !Modifier.isStatic(f.getModifiers()) || Modifier.isFinal(f.getModifiers()) ? 1 : 0, 1);
        }
        for (Method m : DearPenFriend.class.getDeclaredMethods()) {
            due.is("a name of its own: " + m, Modifier.isPrivate(m.getModifiers()) && open.contains(m.getName()) ? 1 : 0, 0);
        }
        for (Class<?> inside : DearPenFriend.class.getDeclaredClasses()) {
            due.is("static: " + inside, Modifier.isStatic(inside.getModifiers()) ? 1 : 0, 1);
            due.is("not public: " + inside, Modifier.isPublic(inside.getModifiers()) ? 1 : 0, 0);
            for (Method m : inside.getDeclaredMethods()) {
                due.is("a name of its own: " + m, open.contains(m.getName()) ? 1 : 0, 0);
                due.is("parameters of " + m, m.getParameterCount() <= 7 ? 1 : 0, 1);
            }
        }
    }

    private static void source() throws Exception {
        String source = Files.readString(Path.of("src/main/java/DearPenFriend.java"));
        String code = Pattern.compile("/\\*.*?\\*/|//[^\n]*", Pattern.DOTALL).matcher(source).replaceAll("");
        for (String word : FORBIDDEN) {
            String edge = Character.isLetter(word.charAt(0)) ? "\\b" : "";
            boolean found = Pattern.compile(edge + Pattern.quote(word) + edge).matcher(code).find();
            due.is("'" + word + "' in the source", found ? 1 : 0, 0);
        }
        due.is("only ASCII", source.chars().allMatch(c -> c < 128) ? 1 : 0, 1);
        Matcher method = Pattern.compile("\n( +)(?:public|private|static|final|[A-Za-z\\[\\]]+) [^=;\n]*\\) \\{\n(.*?)\n\\1\\}", Pattern.DOTALL).matcher(code);
        int longest = 0;
        while (method.find()) {
            longest = Math.max(longest, method.group(2).split("\n").length);
        }
        due.is("a longest method of " + longest + " lines", longest > 5 && longest <= 60 ? 1 : 0, 1);
    }
}
