import java.lang.reflect.Constructor;
import java.lang.reflect.Field;
import java.lang.reflect.Method;
import java.lang.reflect.Modifier;
import java.nio.file.Files;
import java.nio.file.Path;
import java.util.Arrays;
import java.util.List;
import java.util.Set;
import java.util.TreeSet;
import java.util.regex.Matcher;
import java.util.regex.Pattern;

/** The public face is the document's, and the source keeps to those rules of the language that can be read off it. */
public final class FaceTest {
    private static final Path SOURCE = Path.of("src/main/java/WeighCourt.java");
    private static final List<String> FACE = List.of(
        "int coins(int, int, int, int)", "int lies(int)", "int truth(int, int)", "int lied(int)", "int alike(int, int)",
        "int balance(int)", "int queue(int, int, int)", "int take(int)", "int pan(int, int, int)", "int unpan(int, int)",
        "int put(int, int, int, int)", "int at(int, int, int)", "int copy(int, int, int, int, int, int)",
        "int complain(int)", "int is(int, int)", "int as(int, int)", "int wish(int, int, int)", "int trace(int)",
        "int weigh(int, int)", "int parts(int, int)", "int undo()", "int search(int, int)", "int goOn(int)",
        "int least()", "int tree()", "int node(int, int)", "int nodeCoin(int, int, int)", "int walk(int)",
        "int prove()", "int row(int, int)", "int spoil(int, int, int)", "int check()", "int fix(int, long, long)",
        "int judge(int, int)", "int judged(int)", "int count(int)", "long digest()", "int status()");
    private static int wrong = 0;

    private static void due(boolean holds, String what) {
        if (holds) return;
        wrong++;
        System.out.println("not as due: " + what);
    }

    public static void main(String[] args) throws Exception {
        face();
        nested();
        String code = bare(Files.readString(SOURCE));
        words(code);
        sizes(code);
        System.out.println(wrong == 0 ? "the face and the language are as due" : wrong + " are not as due");
        if (wrong != 0) System.exit(1);
    }

    private static void face() throws Exception {
        due(Modifier.isFinal(WeighCourt.class.getModifiers()), "the class is final");
        Set<String> seen = new TreeSet<>();
        Set<String> names = new TreeSet<>();
        for (Method m : WeighCourt.class.getDeclaredMethods()) {
            if (!Modifier.isPublic(m.getModifiers())) continue;
            String types = String.join(", ", Arrays.stream(m.getParameterTypes()).map(Class::getName).toList());
            seen.add(m.getReturnType().getName() + " " + m.getName() + "(" + types + ")");
            names.add(m.getName());
            due(!Modifier.isStatic(m.getModifiers()), m.getName() + " belongs to an object");
        }
        due(seen.equals(new TreeSet<>(FACE)), "the methods " + seen);
        for (Method m : WeighCourt.class.getDeclaredMethods()) {
            if (Modifier.isPublic(m.getModifiers())) continue;
            due(Modifier.isPrivate(m.getModifiers()), m.getName() + " is private");
            due(!names.contains(m.getName()), m.getName() + " bears a public name");
        }
        Constructor<?>[] made = WeighCourt.class.getDeclaredConstructors();
        due(made.length == 1 && Modifier.isPublic(made[0].getModifiers()), "one public constructor");
        due(made[0].getParameterCount() == 0, "a constructor without parameters");
        constants();
        for (Class<?> inside : WeighCourt.class.getDeclaredClasses()) {
            for (Method m : inside.getDeclaredMethods()) due(!names.contains(m.getName()), inside + " has " + m.getName());
        }
    }

    private static void constants() throws Exception {
        Set<String> seen = new TreeSet<>();
        for (Field f : WeighCourt.class.getDeclaredFields()) {
            int how = f.getModifiers();
            due(!Modifier.isStatic(how) || Modifier.isFinal(how), f.getName() + " is final");
            if (!Modifier.isPublic(how)) due(Modifier.isPrivate(how), f.getName() + " is private");
            else seen.add(f.getType() + " " + f.getName() + " " + f.getInt(null));
        }
        due(seen.equals(Set.of("int NONE -1000", "int BAD -1001", "int STATE -1002", "int FULL -1003")), "constants " + seen);
    }

    private static void nested() {
        Class<?>[] inside = WeighCourt.class.getDeclaredClasses();
        due(inside.length + 1 <= 12, "twelve classes");
        for (Class<?> c : inside) {
            int how = c.getModifiers();
            due(Modifier.isStatic(how), c + " is static");
            due(!Modifier.isPublic(how) && !Modifier.isProtected(how), c + " is not public");
            long fields = Arrays.stream(c.getDeclaredFields()).filter(f -> !Modifier.isStatic(f.getModifiers())).count();
            due(fields <= 20, c + " has twenty fields");
        }
    }

    /** The code without comments; it has no texts. */
    private static String bare(String source) {
        due(source.chars().allMatch(c -> c < 128), "plain letters");
        String code = Pattern.compile("/\\*.*?\\*/", Pattern.DOTALL).matcher(source).replaceAll("");
        return code.replaceAll("//[^\n]*", "");
    }

    private static void words(String code) {
        String[] never = {"\\bthrow\\b", "\\bthrows\\b", "\\btry\\b", "\\bcatch\\b", "\\bfinally\\b", "\\bsynchronized\\b",
            "\\bassert\\b", "->", "::", "\"", "\\bpackage\\b", "\\bprotected\\b", "\\bnative\\b", "\\bvar\\b",
            "\\bgetClass\\b", "\\bhashCode\\b", "Exact\\b", "@"};
        for (String word : never) due(!Pattern.compile(word).matcher(code).find(), "no " + word);
        Set<String> library = new TreeSet<>();
        Matcher calls = Pattern.compile("\\b(Arrays|System|Math|Integer|Long|String|Character)\\.(\\w+)").matcher(code);
        while (calls.find()) library.add(calls.group());
        Set<String> may = Set.of("Arrays.copyOf", "Arrays.fill", "System.arraycopy", "Math.max", "Math.min", "Math.abs",
            "Math.floorMod", "Integer.bitCount", "Integer.numberOfTrailingZeros", "Long.bitCount",
            "Long.numberOfTrailingZeros");
        due(may.containsAll(library), "the library " + library);
        Matcher imports = Pattern.compile("\\bimport\\s+([\\w.*]+)").matcher(code);
        while (imports.find()) due(imports.group(1).equals("java.util.Arrays"), "import " + imports.group(1));
    }

    private static void sizes(String code) {
        Matcher heads = Pattern.compile("\\n( +)[\\w\\[\\] ]+\\(([^()]*)\\) \\{\\n").matcher(code);
        while (heads.find()) {
            String head = heads.group().trim();
            int end = code.indexOf("\n" + heads.group(1) + "}", heads.end() - 1);
            long lines = code.substring(heads.start(), end).chars().filter(c -> c == '\n').count();
            due(lines <= 60, head + " is short");
            due(heads.group(2).split(",").length <= 7, head + " has seven parameters");
        }
    }
}
