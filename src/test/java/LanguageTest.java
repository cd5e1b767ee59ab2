import java.io.IOException;
import java.lang.reflect.Constructor;
import java.lang.reflect.Method;
import java.lang.reflect.Modifier;
import java.nio.file.Files;
import java.nio.file.Path;
import java.util.Arrays;
import java.util.TreeSet;
import java.util.regex.Matcher;
import java.util.regex.Pattern;

/** What of LANGUAGE.md can be seen in the text of the class, and its face. */
public final class LanguageTest {
    private static final Due T = new Due("LanguageTest");
    private static final String[] NOT_THERE = {
        "\\b(throw|throws|try|catch|finally|synchronized|assert|import|package|volatile|transient|native)\\b",
        "->", "::", "\\bprotected\\b", "\\bSystem\\.(?!arraycopy)", "\\b(Thread|Random|Class|Object)\\b",
        "Exact\\b", "\\b(equals|hashCode|toString)\\b", "\\bstatic (?!final\\b)[\\w\\[\\]<>]+ \\w+\\s*(=|;)",
    };
    private static final String FACE = "again(int) chance(int,int,boolean) clover(int) count(int) cow(int,int) "
        + "fault() fewest(int,boolean) full(int) graze(int,int,boolean,int) hour(boolean) judge(int,int) keep(int) "
        + "milk(int,int) move(int,int) on(int) pass() rang(int,int) rests(int,int) seed(long) "
        + "share(int,int,boolean) snow() sorts(int) sow(int) summers(int) tell(int,int,boolean) undo() untell() "
        + "wipe() write(int)";

    public static void main(String[] args) throws IOException {
        String text = Files.readString(Path.of("src/main/java/MilkTruce.java"));
        String code = text.replaceAll("(?s)/\\*.*?\\*/", "").replaceAll("//[^\n]*", "");
        for (String pattern : NOT_THERE) {
            Matcher found = Pattern.compile(pattern).matcher(code);
            boolean is = found.find();
            T.due("'" + pattern + "'" + (is ? " in " + found.group() : ""), is ? 1 : 0, 0);
        }
        face();
        T.end();
    }

    private static void face() {
        TreeSet<String> open = new TreeSet<>();
        for (Method m : MilkTruce.class.getDeclaredMethods()) {
            if (Modifier.isPublic(m.getModifiers())) {
                String kinds = Arrays.toString(Arrays.stream(m.getParameterTypes()).map(Class::getName).toArray());
                open.add(m.getName() + "(" + kinds.substring(1, kinds.length() - 1).replace(" ", "") + ")");
                Class<?> answer = m.getName().equals("seed") ? long.class : int.class;
                T.due("what " + m.getName() + " answers", m.getReturnType() == answer ? 1 : 0, 1);
            } else {
                T.due(m.getName() + " is private", Modifier.isPrivate(m.getModifiers()) ? 1 : 0, 1);
            }
        }
        T.due("the face: " + open, String.join(" ", open).equals(FACE) ? 1 : 0, 1);
        for (Method m : MilkTruce.class.getDeclaredMethods()) {
            boolean bearsPublicName = !Modifier.isPublic(m.getModifiers()) && FACE.matches("(.* )?" + m.getName() + "\\(.*");
            T.due(m.getName() + ": no private method bears the name of a public one", bearsPublicName ? 1 : 0, 0);
        }
        Constructor<?>[] made = MilkTruce.class.getDeclaredConstructors();
        T.due("constructors", made.length, 1);
        T.due("of no parameters", made[0].getParameterCount(), 0);
        T.due("public and final", MilkTruce.class.getModifiers(), Modifier.PUBLIC | Modifier.FINAL);
    }
}
