import java.io.IOException;
import java.lang.reflect.Constructor;
import java.lang.reflect.Field;
import java.lang.reflect.Method;
import java.lang.reflect.Modifier;
import java.nio.file.Files;
import java.nio.file.Path;
import java.util.Arrays;
import java.util.Set;
import java.util.TreeSet;
import java.util.regex.Matcher;
import java.util.regex.Pattern;

/** Such rules of LANGUAGE.md as can be seen by reading the source and the compiled face. */
public final class LanguageTest {
    private static final Check CHECK = new Check("the language");

    private static final String FACE = "path:3 pathTold:2 ride:2 rideTold:2 count:1 feed:6 text:0 force:1 asks:2 horse:4"
            + " stand:2 told:2 goes:2 at:1 soonest:3 piece:3 both:3 all:0 worth:1 teach:1 move:2 cut:3 lost:3 needed:3"
            + " again:2 doctor:1 judge:3 wet:2 whence:1 laws:2 film:2 drawn:1 mean:5 image:0 back:0 sheet:3 cell:3"
            + " copy:5 horsesBy:4 taken:2";

    public static void main(String[] args) throws IOException {
        String source = Files.readString(Path.of("src/main/java/HorsesOwnWays.java"));
        String code = withoutCommentsAndTexts(source);
        words(code);
        lines(source);
        methods(code);
        face();
        classes();
        CHECK.finish();
    }

    private static String withoutCommentsAndTexts(String source) {
        return source.replaceAll("(?s)/\\*.*?\\*/", "").replaceAll("//[^\n]*", "")
                .replaceAll("\"[^\"]*\"", "\"\"").replaceAll("'.'", "' '");
    }

    private static void words(String code) {
        String[] outside = {"\\b(package|import|throw|throws|try|catch|finally|synchronized|assert|instanceof|protected)\\b",
            "\\b(var|transient|volatile|native|float|double|Object|System\\.(?!arraycopy)|Thread|equals|hashCode|toString)\\b",
            "Exact\\b", "->", "::", "@", "static *\\{", "while *\\(true", "for *\\(;"};
        for (String o : outside) {
            Matcher found = Pattern.compile(o).matcher(code);
            CHECK.due("whether the source has " + o, found.find() ? 1 : 0, 0);
        }
    }

    private static void lines(String source) {
        for (String line : source.split("\n")) {
            CHECK.due("the length of: " + line, Math.max(120, line.length()), 120);
        }
        CHECK.due("signs other than 10, 32 .. 126", source.replaceAll("[\n -~]", "").length(), 0);
    }

    private static void methods(String code) {
        int since = 0;
        int number = 0;
        for (String line : code.split("\n")) {
            number++;
            if (line.matches("(    |        )(\\w.*)?\\w+\\(.*\\) \\{")) {
                since = number;
            }
            if (line.matches("(    |        )\\}")) {
                CHECK.due("lines of what ends at line " + number, Math.max(60, since == 0 ? 0 : number - since + 1), 60);
                since = 0;
            }
        }
    }

    private static void face() {
        Set<String> methods = new TreeSet<>();
        Set<String> names = new TreeSet<>();
        for (Method m : HorsesOwnWays.class.getDeclaredMethods()) {
            if (Modifier.isPublic(m.getModifiers())) {
                methods.add(m.getName() + ":" + m.getParameterCount());
                names.add(m.getName());
                boolean isLong = m.getName().equals("lost") || m.getName().equals("mean");
                CHECK.due("whether " + m + " has its type", m.getReturnType() == (isLong ? long.class : int.class) ? 1 : 0, 1);
            }
        }
        CHECK.due("whether the methods are those of the face",
                methods.equals(new TreeSet<>(Arrays.asList(FACE.split(" ")))) ? 1 : 0, 1);
        for (Class<?> c : HorsesOwnWays.class.getDeclaredClasses()) {
            for (Method m : c.getDeclaredMethods()) {
                CHECK.due("whether " + m + " bears a name of the face", names.contains(m.getName()) ? 1 : 0, 0);
            }
        }
        for (Method m : HorsesOwnWays.class.getDeclaredMethods()) {
            if (!m.isSynthetic() && !Modifier.isPublic(m.getModifiers())) {
                CHECK.due("whether " + m + " is private and of a name of its own",
                        Modifier.isPrivate(m.getModifiers()) && !names.contains(m.getName()) ? 1 : 0, 1);
            }
        }
        for (Field f : HorsesOwnWays.class.getDeclaredFields()) {
            boolean isConstant = Set.of("NONE", "BAD", "STATE", "FULL", "NO").contains(f.getName());
            CHECK.due("whether " + f + " is private, or of the face",
                    isConstant ? Modifier.isPublic(f.getModifiers()) ? 1 : 0 : Modifier.isPrivate(f.getModifiers()) ? 1 : 0, 1);
        }
        Constructor<?>[] made = HorsesOwnWays.class.getConstructors();
        CHECK.due("constructors", made.length, 1);
        CHECK.due("its parameters", made[0].getParameterCount(), 0);
        CHECK.due("whether the class is final", Modifier.isFinal(HorsesOwnWays.class.getModifiers()) ? 1 : 0, 1);
    }

    private static void classes() {
        Class<?>[] inside = HorsesOwnWays.class.getDeclaredClasses();
        CHECK.due("classes inside, 12 at most", Math.max(12, inside.length), 12);
        for (Class<?> c : inside) {
            CHECK.due("whether " + c + " is static", Modifier.isStatic(c.getModifiers()) ? 1 : 0, 1);
            fields(c);
        }
        fields(HorsesOwnWays.class);
    }

    private static void fields(Class<?> c) {
        int own = 0;
        for (Field f : c.getDeclaredFields()) {
            if (Modifier.isStatic(f.getModifiers())) {
                CHECK.due("whether " + f + " is final", Modifier.isFinal(f.getModifiers()) ? 1 : 0, 1);
            } else {
                own++;
            }
        }
        CHECK.due("fields of " + c + ", 20 at most", Math.max(20, own), 20);
    }
}
