import java.io.IOException;
import java.lang.management.ManagementFactory;
import java.lang.reflect.Field;
import java.lang.reflect.Method;
import java.lang.reflect.Modifier;
import java.nio.file.Files;
import java.nio.file.Path;
import java.util.ArrayList;
import java.util.Arrays;
import java.util.List;
import java.util.Set;
import java.util.TreeSet;

/** The face of the document, and what a program can look at of LANGUAGE.md. It runs from the project's root. */
final class LanguageTest {
    private static final Path SOURCE = Path.of("src/main/java/RegattaOffice.java");

    private static final String FACE = """
            abandon(int, boolean) boolean IndexOutOfBoundsException
            at(int) int IndexOutOfBoundsException
            boat() int IllegalStateException UnsupportedOperationException
            clear(int, int) boolean IndexOutOfBoundsException
            code(int, int, int, int) void IndexOutOfBoundsException IllegalStateException IllegalArgumentException
            discards(int, int) void IllegalArgumentException UnsupportedOperationException
            finish(int, int, int) void IndexOutOfBoundsException IllegalStateException IllegalArgumentException
            gross(int) int IndexOutOfBoundsException
            isDiscard(int, int) boolean IndexOutOfBoundsException
            lot(int, int) int IndexOutOfBoundsException IllegalArgumentException
            mean(int) double IndexOutOfBoundsException
            missing(int, int) int IndexOutOfBoundsException
            net(int) int IndexOutOfBoundsException
            penalty(int, int, int) void IndexOutOfBoundsException IllegalStateException IllegalArgumentException
            points(int, int) int IndexOutOfBoundsException
            protest(int, int, int, int) int IndexOutOfBoundsException IllegalStateException \
            IllegalArgumentException UnsupportedOperationException
            race(int, int) int IllegalArgumentException IllegalStateException UnsupportedOperationException
            rank(int) int IndexOutOfBoundsException
            reopen(int) void IndexOutOfBoundsException IllegalStateException
            sheet() int
            sheetByte(int) int IndexOutOfBoundsException
            split(int, int) int IllegalStateException IllegalArgumentException
            tie(int, int) int IndexOutOfBoundsException IllegalArgumentException
            told(int, int) int IndexOutOfBoundsException IllegalArgumentException
            what(int, int, int, int) int IndexOutOfBoundsException IllegalStateException IllegalArgumentException
            """;

    private static final List<String> RULED_OUT = List.of("finally", "synchronized", "assert ", "package ",
            "getMessage", "static {");

    /** Rule 4, and what javac itself makes calls of: constructors, loops over a list, switches on enums, records. */
    private static final String LIBRARY = """
            Object: <init>
            String: length charAt isEmpty equals indexOf substring toCharArray <init>
            StringBuilder: <init> append charAt setCharAt setLength deleteCharAt reverse length toString
            Integer: valueOf intValue compare max min signum bitCount sum
            Long: compare max min signum bitCount sum
            Math: max min abs floorDiv floorMod
            System: arraycopy
            Enum: <init> valueOf ordinal
            Record: <init>
            ArrayList: <init> add get set remove size isEmpty clear iterator
            List: add get set remove size isEmpty clear iterator of
            Iterator: hasNext next
            Iterable: iterator
            Comparable: compareTo
            Arrays: copyOf copyOfRange fill
            IllegalStateException: <init>
            IllegalArgumentException: <init>
            IndexOutOfBoundsException: <init>
            ArithmeticException: <init>
            UnsupportedOperationException: <init>
            NoSuchElementException: <init>
            RuntimeException: <init>
            dynamic: toString hashCode equals
            """;

    private LanguageTest() {
    }

    static void run() throws IOException {
        face();
        members();
        source();
        library();
        madeByCalls();
    }

    private static void face() {
        Set<String> found = new TreeSet<>();
        for (Method method : RegattaOffice.class.getDeclaredMethods()) {
            if (Modifier.isPublic(method.getModifiers())) {
                found.add(signature(method));
            }
        }
        Check.equal("the public methods", String.join("\n", found) + "\n", FACE);
        Check.equal("the class", Modifier.toString(RegattaOffice.class.getModifiers()), "public final");
        Check.equal("the constructors", Arrays.toString(RegattaOffice.class.getDeclaredConstructors()),
                "[public RegattaOffice()]");
        Check.equal("the public fields", Arrays.toString(RegattaOffice.class.getFields()),
                "[public static final int RegattaOffice.NONE]");
    }

    private static String signature(Method method) {
        List<String> parameters = new ArrayList<>();
        for (Class<?> parameter : method.getParameterTypes()) {
            parameters.add(parameter.getName());
        }
        StringBuilder text = new StringBuilder(method.getName());
        text.append('(').append(String.join(", ", parameters)).append(") ").append(method.getReturnType());
        for (Class<?> thrown : method.getExceptionTypes()) {
            text.append(' ').append(thrown.getSimpleName());
        }
        return text.toString();
    }

    private static void members() {
        Set<String> faceNames = new TreeSet<>();
        for (Method method : RegattaOffice.class.getMethods()) {
            faceNames.add(method.getName());
        }
        for (Method method : RegattaOffice.class.getDeclaredMethods()) {
            boolean isOfFace = Modifier.isPublic(method.getModifiers());
            Check.equal(method + " is public or private",
                    isOfFace || Modifier.isPrivate(method.getModifiers()), true);
            Check.equal(method + " bears a public name", faceNames.contains(method.getName()), isOfFace);
        }
        List<Class<?>> all = new ArrayList<>(List.of(RegattaOffice.class.getDeclaredClasses()));
        for (Class<?> inside : all) {
            Check.equal(inside + " is static", Modifier.isStatic(inside.getModifiers()), true);
            for (Method method : inside.getDeclaredMethods()) {
                Check.equal(method + " bears a public name", faceNames.contains(method.getName()), false);
            }
        }
        all.add(RegattaOffice.class);
        Check.equal("at most twelve classes", all.size() <= 12, true);
        for (Class<?> each : all) {
            int fields = 0;
            for (Field field : each.getDeclaredFields()) {
                boolean isStatic = Modifier.isStatic(field.getModifiers());
                Check.equal(field + " is no static state",
                        !isStatic || Modifier.isFinal(field.getModifiers()), true);
                fields += isStatic ? 0 : 1;
            }
            Check.equal(each + " has at most twenty fields", fields <= 20, true);
        }
    }

    private static void source() throws IOException {
        String source = Files.readString(SOURCE);
        String withoutWords = source.replaceAll("//[^\n]*|(?s:/\\*.*?\\*/)|\"[^\"\n]*\"", "");
        for (String ruledOut : RULED_OUT) {
            Check.equal("the source has " + ruledOut, withoutWords.contains(ruledOut), false);
        }
        Check.equal("characters 0 to 255 alone", source.chars().allMatch(character -> character < 256), true);
    }

    private static void library() throws IOException {
        Set<String> allowed = new TreeSet<>();
        LIBRARY.lines().forEach(line -> {
            String[] names = line.split(":? ");
            for (int i = 1; i < names.length; i++) {
                allowed.add(names[0] + "." + names[i]);
            }
        });
        List<Class<?>> all = new ArrayList<>(List.of(RegattaOffice.class.getDeclaredClasses()));
        all.add(RegattaOffice.class);
        for (Class<?> each : all) {
            for (String method : new ClassFile(each).methods) {
                boolean isOwn = method.startsWith("RegattaOffice") || method.startsWith("[");
                String name = method.substring(method.lastIndexOf('/') + 1);
                Check.equal(each + " calls " + method, isOwn || allowed.contains(name), true);
            }
        }
    }

    /** All objects of a run live in one room of 7.3 million fields and elements: 512 calls stay far below. */
    private static void madeByCalls() {
        if (!(ManagementFactory.getThreadMXBean() instanceof com.sun.management.ThreadMXBean threads)
                || !threads.isThreadAllocatedMemorySupported()) {
            return;
        }
        long thread = Thread.currentThread().getId();
        dearCalls();
        long before = threads.getThreadAllocatedBytes(thread);
        dearCalls();
        long made = threads.getThreadAllocatedBytes(thread) - before;
        Check.equal("bytes made by 506 calls: " + made, made < 1_000_000, true);
    }

    private static void dearCalls() {
        RegattaOffice office = Make.regatta(40, 16);
        for (int turn = 0; turn < 90; turn++) {
            office.finish(turn % 16, turn % 40, 1 + turn % 7);
            office.rank(turn % 40);
            office.what(turn % 16, turn % 40, 6, 0);
            office.sheet();
            office.missing(turn % 16, 3);
        }
    }
}
