import java.io.IOException;
import java.lang.management.ManagementFactory;
import java.lang.reflect.Field;
import java.lang.reflect.Method;
import java.lang.reflect.Modifier;
import java.nio.charset.StandardCharsets;
import java.nio.file.Files;
import java.nio.file.Path;
import java.util.ArrayList;
import java.util.Arrays;
import java.util.List;
import java.util.regex.Matcher;
import java.util.regex.Pattern;

/** The sizes, the room that calls take, and what LANGUAGE.md rules out and a pattern can find. */
public final class RuleTests {
    private static final String[] RULED_OUT = {"->", "::", "\\bfinally\\b", "\\bassert\\b", "\\bsynchronized\\b",
        "\\bcatch\\b", "\\bSystem\\.(?!arraycopy)", "Exact\\(", "\"\\s*\\+", "\\+\\s*\"", "\\bMath\\.random",
        "\\bprotected\\b", "\\bstatic\\s*\\{", "\\bpackage\\b", "\\bThread\\b", "\\bObject\\b", "\\bequals\\(",
        "\\bhashCode\\(", "\\btoString\\(", "import (?!java\\.util\\.(Arrays|ArrayList|List|Iterator);)"};

    private final Checks checks = new Checks("RuleTests");

    public static void main(String[] args) throws IOException {
        new RuleTests().run();
    }

    private void run() throws IOException {
        sizes();
        source();
        room();
        checks.end();
    }

    private void sizes() {
        List<Class<?>> all = new ArrayList<>(Arrays.asList(BarForger.class.getDeclaredClasses()));
        all.add(BarForger.class);
        checks.holds("some twelve classes", all.size() <= 12);
        for (Class<?> each : all) {
            int fields = 0;
            for (Field field : each.getDeclaredFields()) {
                boolean constant = Modifier.isStatic(field.getModifiers());
                checks.holds(field + " is final if static", !constant || Modifier.isFinal(field.getModifiers()));
                fields += constant ? 0 : 1;
            }
            for (Method method : each.getDeclaredMethods()) {
                checks.holds(method + " has few parameters", method.getParameterCount() <= 7);
            }
            checks.holds("fields of " + each, fields <= 20);
        }
    }

    private void source() throws IOException {
        String source = Files.readString(Path.of("src/main/java/BarForger.java"), StandardCharsets.US_ASCII);
        String code = source.replaceAll("(?s)/\\*.*?\\*/", "").replaceAll("//[^\n]*", "");
        for (String pattern : RULED_OUT) {
            Matcher matcher = Pattern.compile(pattern).matcher(code);
            checks.holds("no " + pattern, !matcher.find());
        }
    }

    /** A run has one room for all that its calls make: the calls are to make nothing that stays out of the rows. */
    private void room() {
        com.sun.management.ThreadMXBean threads =
                (com.sun.management.ThreadMXBean) ManagementFactory.getThreadMXBean();
        fill(new BarForger());
        long before = threads.getCurrentThreadAllocatedBytes();
        BarForger x = new BarForger();
        long made = threads.getCurrentThreadAllocatedBytes() - before;
        checks.holds("a new object takes " + made + " bytes", made < 250000);
        before = threads.getCurrentThreadAllocatedBytes();
        fill(x);
        made = threads.getCurrentThreadAllocatedBytes() - before;
        checks.holds("512 calls take " + made + " bytes", made < 20000);
    }

    private static void fill(BarForger x) {
        for (int step = 0; step < 8; step++) {
            x.tellStep(20, 20, 1, 1);
        }
        for (int part = 0; part < 7; part++) {
            x.cut(part, 20);
        }
        x.append('h');
        x.append(';');
        for (int times = 0; times < 60; times++) {
            x.digest();
            x.heatsToSteps();
            x.forge(0, 20, 20, 2);
            x.undo();
            x.carryOut();
            x.blowOf(1, 20, 20, 2, 3);
            x.heatsTo(2, 20, 20, 2);
            x.way(3, 6, 6, 1);
        }
    }
}
