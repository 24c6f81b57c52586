import java.io.DataInputStream;
import java.io.IOException;
import java.io.InputStream;
import java.util.Set;
import java.util.TreeSet;

/** What a compiled class names: other classes, and methods of other classes. */
final class ClassFile {
    private static final int UTF8 = 1;
    private static final int INTEGER = 3;
    private static final int FLOAT = 4;
    private static final int LONG = 5;
    private static final int DOUBLE = 6;
    private static final int CLASS = 7;
    private static final int METHOD = 10;
    private static final int INTERFACE_METHOD = 11;
    private static final int NAME_AND_TYPE = 12;
    private static final int METHOD_HANDLE = 15;
    private static final int INVOKE_DYNAMIC = 18;

    /** As "java/lang/Math". */
    final Set<String> classes = new TreeSet<>();
    /** As "java/lang/Math.min"; with "dynamic" as the class for what javac makes of lambdas and of joined texts. */
    final Set<String> methods = new TreeSet<>();

    private final int[] tags;
    private final int[] firsts;
    private final int[] seconds;
    private final String[] texts;

    ClassFile(Class<?> of) throws IOException {
        try (InputStream stream = of.getResourceAsStream(of.getName() + ".class");
                DataInputStream in = new DataInputStream(stream)) {
            in.readLong();
            int count = in.readUnsignedShort();
            tags = new int[count];
            firsts = new int[count];
            seconds = new int[count];
            texts = new String[count];
            for (int i = 1; i < count; i++) {
                read(in, i);
                i += tags[i] == LONG || tags[i] == DOUBLE ? 1 : 0;
            }
        }
        for (int i = 1; i < tags.length; i++) {
            gather(i);
        }
    }

    private void read(DataInputStream in, int i) throws IOException {
        tags[i] = in.readUnsignedByte();
        switch (tags[i]) {
            case UTF8 -> texts[i] = in.readUTF();
            case INTEGER, FLOAT -> in.readInt();
            case LONG, DOUBLE -> in.readLong();
            case METHOD_HANDLE -> in.skipBytes(3);
            default -> {
                firsts[i] = in.readUnsignedShort();
                boolean hasTwo = tags[i] >= CLASS + 2 && tags[i] <= NAME_AND_TYPE || tags[i] == INVOKE_DYNAMIC;
                seconds[i] = hasTwo ? in.readUnsignedShort() : 0;
            }
        }
    }

    private void gather(int i) {
        switch (tags[i]) {
            case CLASS -> classes.add(texts[firsts[i]]);
            case METHOD, INTERFACE_METHOD -> methods.add(texts[firsts[firsts[i]]] + "." + texts[firsts[seconds[i]]]);
            case INVOKE_DYNAMIC -> methods.add("dynamic." + texts[firsts[seconds[i]]]);
            default -> { }
        }
    }
}
