import java.lang.reflect.Constructor;
import java.lang.reflect.Field;
import java.lang.reflect.Method;
import java.lang.reflect.Modifier;
import java.nio.file.Files;
import java.nio.file.Path;
import java.util.HashSet;
import java.util.Set;
import java.util.TreeSet;
import java.util.regex.Pattern;

/** What can be seen of LANGUAGE.md in the source and in the compiled class. */
public final class RulesTest {
    private static final Checks C = new Checks("RulesTest");
    private static final String FACE = "put/3 of/2 word/3 at/2 often/2 terms/2 feed/5 end/1 row/0 murmur/0 law/0 told/0 "
        + "fault/0 stopped/0 force/1 asks/5 weather/2 say/4 dawn/0 undo/0 share/3 mean/1 hush/0 saying/3 talk/3 cancel/0 "
        + "plan/2 bring/3 threat/3 seen/3 forget/0 holds/2 signs/0 winter/2 drawn/2 image/1 back/1 count/1 status/0";

    public static void main(String[] args) throws Exception {
        face();
        nested();
        source(Files.readString(Path.of("src/main/java/WordSlides.java")));
        C.finish();
    }

    private static Set<String> publicNames() {
        Set<String> names = new HashSet<>();
        for (String each : FACE.split(" ")) {
            names.add(each.split("/")[0]);
        }
        return names;
    }

    private static void face() {
        Set<String> due = new TreeSet<>(Set.of(FACE.split(" ")));
        Set<String> names = publicNames();
        Set<String> got = new TreeSet<>();
        for (Method m : WordSlides.class.getDeclaredMethods()) {
            if (Modifier.isPublic(m.getModifiers())) {
                got.add(m.getName() + "/" + m.getParameterCount());
                C.due(m.getName() + " answers an int", m.getReturnType() == int.class ? 1 : 0, 1);
            } else {
                C.due(m.getName() + " is private", Modifier.isPrivate(m.getModifiers()) ? 1 : 0, 1);
                C.due(m.getName() + " is no public name", names.contains(m.getName()) ? 1 : 0, 0);
            }
        }
        C.due("the face", got.equals(due) ? 1 : 0, 1);
        for (Field f : WordSlides.class.getDeclaredFields()) {
            boolean constant = f.getName().equals("NONE");
            C.due(f.getName() + " is private", Modifier.isPrivate(f.getModifiers()) ? 1 : 0, constant ? 0 : 1);
        }
        Constructor<?>[] constructors = WordSlides.class.getDeclaredConstructors();
        C.due("one constructor", constructors.length, 1);
        C.due("it is public", Modifier.isPublic(constructors[0].getModifiers()) ? 1 : 0, 1);
        C.due("the class is final", Modifier.isFinal(WordSlides.class.getModifiers()) ? 1 : 0, 1);
    }

    private static void nested() {
        Class<?>[] inside = WordSlides.class.getDeclaredClasses();
        C.due("some twelve classes", inside.length <= 12 ? 1 : 0, 1);
        for (Class<?> each : inside) {
            C.due(each + " is static", Modifier.isStatic(each.getModifiers()) ? 1 : 0, 1);
            C.due(each + " is not public", Modifier.isPublic(each.getModifiers()) ? 1 : 0, 0);
            int fields = 0;
            for (Field f : each.getDeclaredFields()) {
                boolean still = Modifier.isStatic(f.getModifiers());
                fields += still ? 0 : 1;
                C.due(f + " is final, if static", still && !Modifier.isFinal(f.getModifiers()) ? 1 : 0, 0);
            }
            C.due(each + " has some twenty fields", fields <= 20 ? 1 : 0, 1);
            for (Method m : each.getDeclaredMethods()) {
                C.due(m + " has seven parameters at most", m.getParameterCount() <= 7 ? 1 : 0, 1);
                C.due(m + " is no public name", publicNames().contains(m.getName()) ? 1 : 0, 0);
            }
        }
    }

    private static void source(String text) {
        String bare = text.replaceAll("(?s)/\\*.*?\\*/", "").replaceAll("//[^\n]*", "").replaceAll("\"[^\"]*\"", "\"\"");
        String[] never = {"\\bthrow\\b", "\\btry\\b", "\\bcatch\\b", "\\bsynchronized\\b", "\\bassert\\b", "->", "::",
            "\\bimport (?!java\\.util\\.Arrays;)", "\\bObject\\b", "\\bSystem\\.(?!arraycopy)", "Exact\\(", "\\bpackage\\b",
            "\\.equals\\(", "\\.hashCode\\(", "\\.toString\\(", "\\bRandom\\b", "\\bThread\\b", "\"\\s*\\+", "\\+\\s*\"",
            "\\bdouble\\b", "\\bfloat\\b", "static\\s*\\{", "while \\(true\\)", "for \\(;;\\)", "\t"};
        for (String each : never) {
            C.due("found " + each, Pattern.compile(each).matcher(bare).find() ? 1 : 0, 0);
        }
        C.due("signs 1 to 127 alone", text.chars().allMatch(c -> c > 0 && c < 128) ? 1 : 0, 1);
        int lines = 0;
        for (String line : text.split("\n")) {
            boolean opens = line.matches("    (    )?(private|public|static|final|int|boolean|void|Text|[A-Z]\\w*).*\\) \\{");
            lines = opens ? 1 : lines + 1;
            if (line.matches("    (    )?\\}") && lines < 400) {
                C.due("a short method ends: " + lines, lines <= 60 ? 1 : 0, 1);
                lines = 1000;
            }
        }
    }
}
