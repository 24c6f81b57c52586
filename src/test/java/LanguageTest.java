import java.io.IOException;
import java.lang.management.ManagementFactory;
import java.lang.reflect.Field;
import java.lang.reflect.Method;
import java.lang.reflect.Modifier;
import java.nio.file.Files;
import java.nio.file.Path;
import java.util.ArrayList;
import java.util.Arrays;
import java.util.List;
import java.util.Set;
import java.util.TreeSet;

/** The face of the document, and what a program can look at of LANGUAGE.md. It runs from the project's root. */
final class LanguageTest {
    private static final Path SOURCE = Path.of("src/main/java/RegattaOffice.java");

    private static final String FACE = """
            abandon(int, boolean) boolean IndexOutOfBoundsException
            at(int) int IndexOutOfBoundsException
            boat() int IllegalStateException UnsupportedOperationException
            clear(int, int) boolean IndexOutOfBoundsException
            code(int, int, int, int) void IndexOutOfBoundsException IllegalStateException IllegalArgumentException
            discards(int, int) void IllegalArgumentException UnsupportedOperationException
            finish(int, int, int) void IndexOutOfBoundsException IllegalStateException IllegalArgumentException
            gross(int) int IndexOutOfBoundsException
            isDiscard(int, int) boolean IndexOutOfBoundsException
            lot(int, int) int IndexOutOfBoundsException IllegalArgumentException
            mean(int) double IndexOutOfBoundsException
            missing(int, int) int IndexOutOfBoundsException
            net(int) int IndexOutOfBoundsException
            penalty(int, int, int) void IndexOutOfBoundsException IllegalStateException IllegalArgumentException
            points(int, int) int IndexOutOfBoundsException
            protest(int, int, int, int) int IndexOutOfBoundsException IllegalStateException \
            IllegalArgumentException UnsupportedOperationException
            race(int, int) int IllegalArgumentException IllegalStateException UnsupportedOperationException
            rank(int) int IndexOutOfBoundsException
            reopen(int) void IndexOutOfBoundsException IllegalStateException
            sheet() int
            sheetByte(int) int IndexOutOfBoundsException
            split(int, int) int IllegalStateException IllegalArgumentException
            tie(int, int) int IndexOutOfBoundsException IllegalArgumentException
            told(int, int) int IndexOutOfBoundsException IllegalArgumentException
            what(int, int, int, int) int IndexOutOfBoundsException IllegalStateException IllegalArgumentException
            """;

    private static final List<String> RULED_OUT = List.of("->", "::", "finally", "synchronized", "assert ",
            "record ", "catch", "getMessage", "Math.abs(double", "Random", "System.nanoTime",
            "System.currentTimeMillis", "System.out", "Exact(", "float", "boolean[][]", "package ", "hashCode",
            "equals(", "toString", "static {");

    private LanguageTest() {
    }

    static void run() throws IOException {
        face();
        members();
        source();
        madeByCalls();
    }

    private static void face() {
        Set<String> found = new TreeSet<>();
        for (Method method : RegattaOffice.class.getDeclaredMethods()) {
            if (Modifier.isPublic(method.getModifiers())) {
                found.add(signature(method));
            }
        }
        Check.equal("the public methods", String.join("\n", found) + "\n", FACE);
        Check.equal("the class", Modifier.toString(RegattaOffice.class.getModifiers()), "public final");
        Check.equal("the constructors", Arrays.toString(RegattaOffice.class.getDeclaredConstructors()),
                "[public RegattaOffice()]");
        Check.equal("the public fields", Arrays.toString(RegattaOffice.class.getFields()),
                "[public static final int RegattaOffice.NONE]");
    }

    private static String signature(Method method) {
        List<String> parameters = new ArrayList<>();
        for (Class<?> parameter : method.getParameterTypes()) {
            parameters.add(parameter.getName());
        }
        StringBuilder text = new StringBuilder(method.getName());
        text.append('(').append(String.join(", ", parameters)).append(") ").append(method.getReturnType());
        for (Class<?> thrown : method.getExceptionTypes()) {
            text.append(' ').append(thrown.getSimpleName());
        }
        return text.toString();
    }

    private static void members() {
        Set<String> faceNames = new TreeSet<>();
        for (Method method : RegattaOffice.class.getMethods()) {
            faceNames.add(method.getName());
        }
        for (Method method : RegattaOffice.class.getDeclaredMethods()) {
            boolean isOfFace = Modifier.isPublic(method.getModifiers());
            Check.equal(method + " is public or private",
                    isOfFace || Modifier.isPrivate(method.getModifiers()), true);
            Check.equal(method + " bears a public name", faceNames.contains(method.getName()), isOfFace);
        }
        List<Class<?>> all = new ArrayList<>(List.of(RegattaOffice.class.getDeclaredClasses()));
        for (Class<?> inside : all) {
            Check.equal(inside + " is static", Modifier.isStatic(inside.getModifiers()), true);
            for (Method method : inside.getDeclaredMethods()) {
                Check.equal(method + " bears a public name", faceNames.contains(method.getName()), false);
            }
        }
        all.add(RegattaOffice.class);
        Check.equal("at most twelve classes", all.size() <= 12, true);
        for (Class<?> each : all) {
            int fields = 0;
            for (Field field : each.getDeclaredFields()) {
                boolean isStatic = Modifier.isStatic(field.getModifiers());
                Check.equal(field + " is no static state",
                        !isStatic || Modifier.isFinal(field.getModifiers()), true);
                fields += isStatic ? 0 : 1;
            }
            Check.equal(each + " has at most twenty fields", fields <= 20, true);
        }
    }

    private static void source() throws IOException {
        String source = Files.readString(SOURCE);
        for (String ruledOut : RULED_OUT) {
            Check.equal("the source has " + ruledOut, source.contains(ruledOut), false);
        }
        Check.equal("one import", source.split("import ", -1).length - 1, 1);
        Check.equal("characters 0 to 127 alone", source.chars().allMatch(character -> character < 128), true);
    }

    /** All objects of a run live in one room: the dearest calls make none. */
    private static void madeByCalls() {
        if (!(ManagementFactory.getThreadMXBean() instanceof com.sun.management.ThreadMXBean threads)
                || !threads.isThreadAllocatedMemorySupported()) {
            return;
        }
        RegattaOffice office = Make.regatta(40, 16);
        long thread = Thread.currentThread().getId();
        dearCalls(office);
        long before = threads.getThreadAllocatedBytes(thread);
        dearCalls(office);
        long made = threads.getThreadAllocatedBytes(thread) - before;
        Check.equal("bytes made by calls: " + made, made < 2000, true);
    }

    private static void dearCalls(RegattaOffice office) {
        for (int turn = 0; turn < 100; turn++) {
            office.finish(turn % 16, turn % 40, 1 + turn % 7);
            office.rank(turn % 40);
            office.what(turn % 16, turn % 40, 6, 0);
            office.sheet();
            office.missing(turn % 16, 3);
        }
    }
}
