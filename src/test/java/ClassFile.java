import java.io.DataInputStream;
import java.io.IOException;
import java.util.Set;
import java.util.TreeSet;

/** The constants of a class file, as far as it takes to know which methods the class calls. */
final class ClassFile {
    private static final int TEXT = 1;
    private static final int METHOD = 10;
    private static final int INTERFACE_METHOD = 11;

    private final int size;
    private final int[] tags;
    private final String[] texts;
    /** The one or two other constants that a constant is made of. */
    private final int[] first;
    private final int[] second;

    ClassFile(Class<?> one) throws IOException {
        try (DataInputStream in = new DataInputStream(one.getResourceAsStream(one.getName() + ".class"))) {
            in.readInt();
            in.readInt();
            size = in.readUnsignedShort();
            tags = new int[size];
            texts = new String[size];
            first = new int[size];
            second = new int[size];
            for (int k = 1; k < size; k++) {
                tags[k] = in.readUnsignedByte();
                readConstant(in, k);
                // A long or a double takes two places.
                k += tags[k] == 5 || tags[k] == 6 ? 1 : 0;
            }
        }
    }

    private void readConstant(DataInputStream in, int k) throws IOException {
        switch (tags[k]) {
            case TEXT -> texts[k] = in.readUTF();
            case 3, 4 -> in.readInt();
            case 5, 6 -> in.readLong();
            case 7, 8, 16, 19, 20 -> first[k] = in.readUnsignedShort();
            case 15 -> {
                in.readUnsignedByte();
                in.readUnsignedShort();
            }
            default -> {
                first[k] = in.readUnsignedShort();
                second[k] = in.readUnsignedShort();
            }
        }
    }

    /** The methods that it calls, each as "java/util/List.size()I". */
    Set<String> calls() {
        Set<String> all = new TreeSet<>();
        for (int k = 1; k < size; k++) {
            if (tags[k] == METHOD || tags[k] == INTERFACE_METHOD) {
                String owner = texts[first[first[k]]];
                all.add(owner + "." + texts[first[second[k]]] + texts[second[second[k]]]);
            }
        }
        return all;
    }
}
