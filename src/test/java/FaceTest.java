import java.io.IOException;
import java.lang.reflect.Field;
import java.lang.reflect.Method;
import java.lang.reflect.Modifier;
import java.nio.file.Files;
import java.nio.file.Path;
import java.util.ArrayList;
import java.util.HashSet;
import java.util.List;
import java.util.Set;
import java.util.TreeSet;
import java.util.regex.Matcher;
import java.util.regex.Pattern;

/** The class shows the document's face and no more, and its file keeps to LANGUAGE.md where a look at it can tell. */
public final class FaceTest {
    private static int wrong = 0;

    private static final String FACE = """
        boolean site(int)
        int word(boolean,int,int,int,int,int)
        int tell(int,int)
        int about(int,int)
        int telling(int,int)
        boolean day(int)
        boolean view(int)
        int row(int)
        int column(int)
        int breaker()
        int use(int,int)
        int initial(int)
        int twins(int,int)
        boolean one(int,int)
        int fills(int)
        int fill(int,int)
        int account()
        int count(int,boolean,int,int,int,int)
        int sets()
        int ratio(int,int)
        int sureRatio(int)
        int odd(int)
        int feed(int,int,int,int,int)
        int end(int)
        int name()
        int spelling()
        int fault(int)
        int spelled(int,int)
        int readings()
        int reading(int,int)
        int value(int,int)
        int sure(int)
        int next(int)
        int many(int)
        boolean image(int)
        boolean again(int)
        """;

    private static void require(boolean holds, String what) {
        if (!holds) {
            wrong++;
            System.out.println("not as due: " + what);
        }
    }

    public static void main(String[] args) throws IOException {
        face();
        inside();
        if (args.length > 0) text(Files.readString(Path.of(args[0])));
        System.out.println(wrong == 0 ? "the face is the document's" : wrong + " things are not as due");
        if (wrong != 0) System.exit(1);
    }

    private static String shape(Method m) {
        List<String> types = new ArrayList<>();
        for (Class<?> c : m.getParameterTypes()) types.add(c.getSimpleName());
        return m.getReturnType().getSimpleName() + " " + m.getName() + "(" + String.join(",", types) + ")";
    }

    private static void face() {
        Class<?> c = UnreadScript.class;
        require(Modifier.isPublic(c.getModifiers()) && Modifier.isFinal(c.getModifiers()), "public final class");
        Set<String> shapes = new TreeSet<>();
        for (Method m : c.getDeclaredMethods()) {
            if (Modifier.isPrivate(m.getModifiers())) continue;
            require(Modifier.isPublic(m.getModifiers()) && !Modifier.isStatic(m.getModifiers()), "public method " + m);
            shapes.add(shape(m));
        }
        require(shapes.equals(new TreeSet<>(FACE.lines().toList())), "the methods " + shapes);
        Set<String> fields = new HashSet<>();
        for (Field f : c.getDeclaredFields()) if (!Modifier.isPrivate(f.getModifiers())) fields.add(f.getName());
        require(fields.equals(Set.of("NONE")), "the fields " + fields);
        require(c.getDeclaredConstructors().length == 1 && c.getConstructors().length == 1, "one public constructor");
    }

    private static void inside() {
        Set<String> open = new HashSet<>();
        for (Method m : UnreadScript.class.getMethods()) open.add(m.getName());
        Class<?>[] classes = UnreadScript.class.getDeclaredClasses();
        require(classes.length + 1 <= 12, "at most twelve classes");
        for (Class<?> c : classes) {
            require(Modifier.isStatic(c.getModifiers()) && !Modifier.isPublic(c.getModifiers()), "static, not public: " + c);
            for (Method m : c.getDeclaredMethods()) require(!open.contains(m.getName()), "a name of the face inside: " + m);
        }
        List<Class<?>> all = new ArrayList<>(List.of(classes));
        all.add(UnreadScript.class);
        for (Class<?> c : all) {
            int own = 0;
            for (Field f : c.getDeclaredFields()) {
                if (Modifier.isStatic(f.getModifiers())) require(Modifier.isFinal(f.getModifiers()), "final: " + f);
                else own++;
            }
            require(own <= 20, "at most twenty fields: " + c);
            for (Method m : c.getDeclaredMethods()) require(m.getParameterCount() <= 7, "at most seven parameters: " + m);
        }
    }

    private static void text(String source) {
        String bare = source.replaceAll("(?s)/\\*.*?\\*/", "").replaceAll("//[^\n]*", "").replaceAll("\"[^\"]*\"", "\"\"");
        String banned = "\\b(throw|throws|try|catch|finally|synchronized|assert|native|volatile|Object|hashCode|toString|"
            + "Random|Thread|package|super|static \\{)\\b|->|::|\\bSystem\\.(?!arraycopy)|\\bimport (?!java\\.util\\.(Arrays|ArrayList|List|Iterator);)";
        Matcher m = Pattern.compile(banned).matcher(bare);
        while (m.find()) require(false, "banned in the file: " + m.group());
        for (char ch : source.toCharArray()) require(ch == '\n' || ch >= 32 && ch < 127, "a plain character, not " + (int) ch);
        shortMethods(source);
    }

    private static void shortMethods(String source) {
        String[] lines = source.split("\n");
        int from = 0;
        for (int i = 0; i < lines.length; i++) {
            if (lines[i].matches(" {4}( {4})?[\\w\\[\\]. ]+\\([^;]*\\) \\{")) from = i;
            if (lines[i].matches(" {4}( {4})?\\}")) require(i - from < 60 || lines[from].contains("class"), "a short method at line " + (from + 1));
        }
    }
}
