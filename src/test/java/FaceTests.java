import java.io.IOException;
import java.lang.reflect.Constructor;
import java.lang.reflect.Field;
import java.lang.reflect.Method;
import java.lang.reflect.Modifier;
import java.nio.charset.StandardCharsets;
import java.nio.file.Files;
import java.nio.file.Path;
import java.util.ArrayList;
import java.util.List;
import java.util.TreeSet;
import java.util.regex.Matcher;
import java.util.regex.Pattern;

/** The class's face against "The public face", the promises' headings and what "Terms" says of the interface. */
public final class FaceTests {
    private static final Pattern GROUP = Pattern.compile("Ahead of the calls (.*) the interface says: ---- (\\w+)\\.");

    private final Checks checks = new Checks("FaceTests");
    private final Document document = new Document();
    private final String source;
    /** The lines of the document's class without "public" and the semicolon: a constant, a constructor, the methods. */
    private final List<String> face = new ArrayList<>();

    private FaceTests() throws IOException {
        source = Files.readString(Path.of("src/main/java/BarForger.java"), StandardCharsets.US_ASCII)
                .replaceAll("\\s+", " ");
        for (String line : document.section("The public face").split("\n")) {
            if (line.startsWith("public ") && line.endsWith(";")) {
                face.add(line.substring("public ".length(), line.length() - 1));
            }
        }
    }

    public static void main(String[] args) throws IOException {
        new FaceTests().run();
    }

    private void run() {
        declared();
        promised();
        groups();
        methods();
        madeByOneConstructor();
        constants();
        hiddenMembers();
        hiddenClasses();
        checks.end();
    }

    /** Each line of the face stands in the source, with the names of its parameters and the order of its exceptions. */
    private void declared() {
        checks.due("lines of the face", face.size(), 27);
        checks.holds("the class's line", document.section("The public face").contains("public final class BarForger {")
                && source.contains("public final class BarForger {"));
        int at = 0;
        for (String line : face) {
            String declaration = "public " + line + (line.contains("(") ? " {" : ";");
            int next = source.indexOf(declaration, at);
            checks.holds(declaration + " stands behind the others", next >= at);
            at = Math.max(at, next);
        }
    }

    /** The promises' headings declare the same methods in the same order. */
    private void promised() {
        List<String> signatures = new ArrayList<>();
        for (Promise promise : Promise.all(document)) {
            signatures.add(promise.signature());
        }
        checks.equal("the promises' methods", signatures, face.subList(2, face.size()));
    }

    /** The comments of the interface stand ahead of the calls that the document names. */
    private void groups() {
        Matcher groups = GROUP.matcher(document.section("Terms"));
        List<String> named = new ArrayList<>();
        while (groups.find()) {
            String[] calls = groups.group(1).replaceAll(",$", "").split(", ");
            int at = source.indexOf("// ---- " + groups.group(2) + " public ");
            checks.holds("the comment of " + groups.group(2), at >= 0);
            String next = source.substring(Math.max(at, 0)).replaceFirst("// ---- ", "").replaceFirst("// ---- .*", "");
            for (String call : calls) {
                checks.holds(call + " is of " + groups.group(2), next.contains("public int " + call + "(")
                        || next.contains("public long " + call + "(") || next.contains("public double " + call + "("));
                named.add(call);
            }
        }
        List<String> all = new ArrayList<>();
        for (Promise promise : Promise.all(document)) {
            all.add(promise.name());
        }
        checks.equal("the calls with a comment", named, all);
    }

    private static String shown(Method method) {
        StringBuilder shown = new StringBuilder(method.getReturnType().getSimpleName()).append(' ');
        shown.append(method.getName()).append('(');
        for (int i = 0; i < method.getParameterCount(); i++) {
            shown.append(i > 0 ? ", " : "").append(method.getParameterTypes()[i].getSimpleName());
        }
        shown.append(')');
        for (int i = 0; i < method.getExceptionTypes().length; i++) {
            shown.append(i > 0 ? ", " : " throws ").append(method.getExceptionTypes()[i].getSimpleName());
        }
        return shown.toString();
    }

    /** No public method but those of the face, and these with the same types. */
    private void methods() {
        TreeSet<String> want = new TreeSet<>();
        for (String line : face.subList(2, face.size())) {
            want.add(line.replaceAll("int \\w+(?=[,)])", "int"));
        }
        TreeSet<String> open = new TreeSet<>();
        for (Method method : BarForger.class.getDeclaredMethods()) {
            if (Modifier.isPublic(method.getModifiers())) {
                open.add(shown(method));
                checks.holds(method + " is of the object", !Modifier.isStatic(method.getModifiers()));
            }
        }
        checks.equal("the public methods", open, want);
    }

    private void madeByOneConstructor() {
        Constructor<?>[] made = BarForger.class.getDeclaredConstructors();
        checks.holds("one public constructor", made.length == 1 && made[0].getParameterCount() == 0
                && made[0].getExceptionTypes().length == 0 && Modifier.isPublic(made[0].getModifiers()));
        int modifiers = BarForger.class.getModifiers();
        checks.holds("public and final", Modifier.isPublic(modifiers) && Modifier.isFinal(modifiers));
        checks.holds("of no package, above no class, of no interface", BarForger.class.getPackageName().isEmpty()
                && BarForger.class.getSuperclass() == Object.class && BarForger.class.getInterfaces().length == 0);
    }

    private void constants() {
        int open = 0;
        for (Field field : BarForger.class.getDeclaredFields()) {
            int modifiers = field.getModifiers();
            if (!Modifier.isPrivate(modifiers)) {
                open++;
                checks.equal("the open field", Modifier.toString(modifiers) + " " + field.getType() + " "
                        + field.getName() + " = " + BarForger.NONE, "public " + face.get(0));
            }
        }
        checks.due("open fields", open, 1);
    }

    private TreeSet<String> publicNames() {
        TreeSet<String> names = new TreeSet<>();
        for (Promise promise : Promise.all(document)) {
            names.add(promise.name());
        }
        return names;
    }

    private void hiddenMembers() {
        TreeSet<String> names = publicNames();
        for (Method method : BarForger.class.getDeclaredMethods()) {
            int modifiers = method.getModifiers();
            checks.holds(method + " is public or private",
                    Modifier.isPublic(modifiers) || Modifier.isPrivate(modifiers));
            checks.holds(method + " bears no public name",
                    Modifier.isPublic(modifiers) || !names.contains(method.getName()));
        }
    }

    private void hiddenClasses() {
        TreeSet<String> names = publicNames();
        for (Class<?> inner : BarForger.class.getDeclaredClasses()) {
            checks.holds(inner + " is private and static", Modifier.isPrivate(inner.getModifiers())
                    && Modifier.isStatic(inner.getModifiers()));
            for (Method method : inner.getDeclaredMethods()) {
                checks.holds(method + " bears no public name", !names.contains(method.getName()));
            }
        }
    }
}
