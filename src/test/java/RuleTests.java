import java.io.IOException;
import java.lang.management.ManagementFactory;
import java.lang.reflect.Constructor;
import java.lang.reflect.Field;
import java.lang.reflect.Method;
import java.lang.reflect.Modifier;
import java.nio.charset.StandardCharsets;
import java.nio.file.Files;
import java.nio.file.Path;
import java.util.ArrayList;
import java.util.Arrays;
import java.util.List;
import java.util.TreeSet;
import java.util.regex.Matcher;
import java.util.regex.Pattern;

/** The face, the room that calls take, and what LANGUAGE.md rules out and a pattern can find. */
public final class RuleTests {
    private static final String[] FACE = {
        "int append(int) IllegalArgumentException IllegalStateException",
        "int blow(int,int,int) IndexOutOfBoundsException IllegalArgumentException IllegalStateException",
        "int blowOf(int,int,int,int,int) IndexOutOfBoundsException IllegalArgumentException",
        "int carryOut()",
        "int clearSteps()",
        "int clearText()",
        "int crop() IllegalStateException",
        "int cut(int,int) IndexOutOfBoundsException IllegalArgumentException IllegalStateException",
        "int forge(int,int,int,int) IndexOutOfBoundsException IllegalArgumentException IllegalStateException",
        "int heat()",
        "int heatsTo(int,int,int,int) IndexOutOfBoundsException IllegalArgumentException",
        "int heatsToSteps()",
        "int lengthAs(int,int) IllegalArgumentException",
        "int part(int,int) IndexOutOfBoundsException IllegalArgumentException",
        "int pause(int) IllegalArgumentException",
        "int setScale(int) IllegalArgumentException",
        "int step(int,int) IndexOutOfBoundsException IllegalArgumentException",
        "int take(int,int,int) IllegalArgumentException",
        "int tellStep(int,int,int,int) IllegalArgumentException IllegalStateException",
        "int undo() IllegalStateException",
        "int value(int) IllegalArgumentException",
        "int way(int,int,int,int) IndexOutOfBoundsException IllegalArgumentException",
        "int weld(int) IndexOutOfBoundsException IllegalStateException",
        "double kept()",
        "long digest()",
    };
    private static final String[] RULED_OUT = {"->", "::", "\\bfinally\\b", "\\bassert\\b", "\\bsynchronized\\b",
        "\\bcatch\\b", "\\bSystem\\.(?!arraycopy)", "Exact\\(", "\"\\s*\\+", "\\+\\s*\"", "\\bMath\\.random",
        "\\bprotected\\b", "\\bstatic\\s*\\{", "\\bpackage\\b", "\\bThread\\b", "\\bObject\\b", "\\bequals\\(",
        "\\bhashCode\\(", "\\btoString\\(", "import (?!java\\.util\\.(Arrays|ArrayList|List|Iterator);)"};

    private final Checks checks = new Checks("RuleTests");

    public static void main(String[] args) throws IOException {
        new RuleTests().run();
    }

    private void run() throws IOException {
        face();
        membersAreHidden();
        sizes();
        source();
        room();
        checks.end();
    }

    private static String shown(Method method) {
        StringBuilder shown = new StringBuilder(method.getReturnType().getSimpleName()).append(' ');
        shown.append(method.getName()).append('(');
        for (int i = 0; i < method.getParameterCount(); i++) {
            shown.append(i > 0 ? "," : "").append(method.getParameterTypes()[i].getSimpleName());
        }
        shown.append(')');
        for (Class<?> thrown : method.getExceptionTypes()) {
            shown.append(' ').append(thrown.getSimpleName());
        }
        return shown.toString();
    }

    private void face() {
        List<String> open = new ArrayList<>();
        for (Method method : BarForger.class.getDeclaredMethods()) {
            if (Modifier.isPublic(method.getModifiers())) {
                open.add(shown(method));
                checks.holds(method + " is of the object", !Modifier.isStatic(method.getModifiers()));
            }
        }
        checks.holds("the methods " + open, new TreeSet<>(open).equals(new TreeSet<>(Arrays.asList(FACE))));
        Constructor<?>[] made = BarForger.class.getDeclaredConstructors();
        checks.holds("one public constructor", made.length == 1 && made[0].getParameterCount() == 0
                && Modifier.isPublic(made[0].getModifiers()));
        int modifiers = BarForger.class.getModifiers();
        checks.holds("public and final", Modifier.isPublic(modifiers) && Modifier.isFinal(modifiers));
    }

    private void membersAreHidden() {
        TreeSet<String> names = new TreeSet<>();
        for (String line : FACE) {
            names.add(line.substring(line.indexOf(' ') + 1, line.indexOf('(')));
        }
        for (Method method : BarForger.class.getDeclaredMethods()) {
            int modifiers = method.getModifiers();
            checks.holds(method + " is public or private",
                    Modifier.isPublic(modifiers) || Modifier.isPrivate(modifiers));
            checks.holds(method + " bears no public name",
                    Modifier.isPublic(modifiers) || !names.contains(method.getName()));
        }
        for (Field field : BarForger.class.getDeclaredFields()) {
            checks.holds(field + " is private", field.getName().equals("NONE")
                    || Modifier.isPrivate(field.getModifiers()));
        }
        for (Class<?> inner : BarForger.class.getDeclaredClasses()) {
            checks.holds(inner + " is private and static", Modifier.isPrivate(inner.getModifiers())
                    && Modifier.isStatic(inner.getModifiers()));
            for (Method method : inner.getDeclaredMethods()) {
                checks.holds(method + " bears no public name", !names.contains(method.getName()));
                checks.holds(method + " has few parameters", method.getParameterCount() <= 7);
            }
        }
    }

    private void sizes() {
        List<Class<?>> all = new ArrayList<>(Arrays.asList(BarForger.class.getDeclaredClasses()));
        all.add(BarForger.class);
        checks.holds("some twelve classes", all.size() <= 12);
        for (Class<?> each : all) {
            int fields = 0;
            for (Field field : each.getDeclaredFields()) {
                boolean constant = Modifier.isStatic(field.getModifiers());
                checks.holds(field + " is final if static", !constant || Modifier.isFinal(field.getModifiers()));
                fields += constant ? 0 : 1;
            }
            checks.holds("fields of " + each, fields <= 20);
        }
    }

    private void source() throws IOException {
        String source = Files.readString(Path.of("src/main/java/BarForger.java"), StandardCharsets.US_ASCII);
        String code = source.replaceAll("(?s)/\\*.*?\\*/", "").replaceAll("//[^\n]*", "");
        for (String pattern : RULED_OUT) {
            Matcher matcher = Pattern.compile(pattern).matcher(code);
            checks.holds("no " + pattern, !matcher.find());
        }
    }

    /** A run has one room for all that its calls make: the calls are to make nothing that stays out of the rows. */
    private void room() {
        com.sun.management.ThreadMXBean threads =
                (com.sun.management.ThreadMXBean) ManagementFactory.getThreadMXBean();
        fill(new BarForger());
        long before = threads.getCurrentThreadAllocatedBytes();
        BarForger x = new BarForger();
        long made = threads.getCurrentThreadAllocatedBytes() - before;
        checks.holds("a new object takes " + made + " bytes", made < 250000);
        before = threads.getCurrentThreadAllocatedBytes();
        fill(x);
        made = threads.getCurrentThreadAllocatedBytes() - before;
        checks.holds("512 calls take " + made + " bytes", made < 20000);
    }

    private static void fill(BarForger x) {
        for (int step = 0; step < 8; step++) {
            x.tellStep(20, 20, 1, 1);
        }
        for (int part = 0; part < 7; part++) {
            x.cut(part, 20);
        }
        x.append('h');
        x.append(';');
        for (int times = 0; times < 60; times++) {
            x.digest();
            x.heatsToSteps();
            x.forge(0, 20, 20, 2);
            x.undo();
            x.carryOut();
            x.blowOf(1, 20, 20, 2, 3);
            x.heatsTo(2, 20, 20, 2);
            x.way(3, 6, 6, 1);
        }
    }
}
