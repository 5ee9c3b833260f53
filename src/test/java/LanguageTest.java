import java.io.IOException;
import java.lang.management.ManagementFactory;
import java.lang.reflect.Constructor;
import java.lang.reflect.Field;
import java.lang.reflect.Method;
import java.lang.reflect.Modifier;
import java.nio.file.Files;
import java.nio.file.Path;
import java.util.List;
import java.util.Set;
import java.util.TreeSet;
import java.util.regex.Matcher;
import java.util.regex.Pattern;

/** The rules of LANGUAGE.md that can be seen from outside: the face, the words, the library, the room. */
public final class LanguageTest {
    private static final Path SOURCE = Path.of("src/main/java/JettisonDesk.java");
    /** The room has 7.3 million fields and elements; at four bytes each, and far from full. */
    private static final long MOST_BYTES = 8_000_000;
    private static final int MOST_LINES = 60;
    /** What rule 4 leaves of the library, as far as the class could need it. */
    private static final String LIBRARY = "java/lang/Object\\.<init>\\(|java/util/ArrayList\\.<init>\\(\\)"
            + "|java/util/(List|ArrayList)\\.((add|get|set|size|isEmpty|clear)\\(|remove\\(I\\))"
            + "|java/lang/(Math|Integer|Long)\\.(compare|max|min|abs|bitCount|floorDiv|floorMod)\\("
            + "|java/lang/System\\.arraycopy\\(|java/util/Arrays\\.(copyOf|copyOfRange|fill)\\(";
    private static final String[] FACE = {
        "int voyage(int,int,int)", "int lot(int,int,int,int,int,int,int)", "int move(int)", "int act(int)",
        "int give(int,int,int)", "int spend(int,int,int)", "int lose(int,int,int)", "boolean lost(int)",
        "boolean back(int)", "int told(int,int)", "int interest(int,int,int)", "int share(int,int,int,int)",
        "int sum(int,int,int)", "int gets(int,int,int)", "int without(int,int,int)", "int balance(int,int)",
        "int payments(int)", "int payment(int,int,int)", "int count()"};

    private final Due due = new Due("LanguageTest");

    public static void main(String[] args) throws IOException {
        LanguageTest test = new LanguageTest();
        test.face();
        test.names();
        test.staticFields();
        test.words();
        test.lengths();
        test.library();
        test.room();
        test.due.end();
    }

    private void face() {
        due.part("rule 1, the face");
        Set<String> want = new TreeSet<>(Set.of(FACE));
        Set<String> got = new TreeSet<>();
        for (Method method : JettisonDesk.class.getDeclaredMethods()) {
            if (Modifier.isPrivate(method.getModifiers())) {
                continue;
            }
            due.is(method + " is public alone", method.getModifiers(), Modifier.PUBLIC);
            got.add(signature(method));
        }
        due.is("methods are " + got, got.equals(want), true);
        Constructor<?>[] constructors = JettisonDesk.class.getDeclaredConstructors();
        due.is("constructors", constructors.length, 1);
        due.is("its parameters", constructors[0].getParameterCount(), 0);
        due.is("it is public", constructors[0].getModifiers(), Modifier.PUBLIC);
        for (Field field : JettisonDesk.class.getDeclaredFields()) {
            boolean constant = field.getName().equals("NONE");
            due.is(field + " is private", Modifier.isPrivate(field.getModifiers()), !constant);
        }
        due.is("the class", JettisonDesk.class.getModifiers(), Modifier.PUBLIC | Modifier.FINAL);
        for (Class<?> inside : JettisonDesk.class.getDeclaredClasses()) {
            due.is(inside + " is static", Modifier.isStatic(inside.getModifiers()), true);
            due.is(inside + " is public", Modifier.isPublic(inside.getModifiers()), false);
        }
    }

    private static String signature(Method method) {
        StringBuilder text = new StringBuilder();
        for (Class<?> type : method.getParameterTypes()) {
            text.append(text.length() == 0 ? "" : ",").append(type.getName());
        }
        return method.getReturnType().getName() + " " + method.getName() + "(" + text + ")";
    }

    private void names() {
        due.part("rules 1 and 11, names and sizes");
        Set<String> publicNames = new TreeSet<>();
        for (String signature : FACE) {
            publicNames.add(signature.substring(signature.indexOf(' ') + 1, signature.indexOf('(')));
        }
        for (Method method : JettisonDesk.class.getDeclaredMethods()) {
            boolean isPrivate = Modifier.isPrivate(method.getModifiers());
            due.is(method + " is private and bears a public name", isPrivate && publicNames.contains(method.getName()),
                    false);
            due.is(method + " has few parameters", method.getParameterCount() <= 7, true);
        }
        for (Class<?> inside : JettisonDesk.class.getDeclaredClasses()) {
            checkMethods(inside, publicNames);
            int fields = 0;
            for (Field field : inside.getDeclaredFields()) {
                fields += Modifier.isStatic(field.getModifiers()) ? 0 : 1;
            }
            due.is(inside + " has few fields", fields <= 20, true);
        }
        due.is("classes", JettisonDesk.class.getDeclaredClasses().length < 12, true);
    }

    private void checkMethods(Class<?> inside, Set<String> publicNames) {
        for (Method method : inside.getDeclaredMethods()) {
            due.is(method + " bears a public name", publicNames.contains(method.getName()), false);
            due.is(method + " has few parameters", method.getParameterCount() <= 7, true);
        }
    }

    private void staticFields() {
        due.part("rule 5, static fields");
        Class<?>[] inside = JettisonDesk.class.getDeclaredClasses();
        for (int k = -1; k < inside.length; k++) {
            Class<?> one = k < 0 ? JettisonDesk.class : inside[k];
            for (Field field : one.getDeclaredFields()) {
                if (Modifier.isStatic(field.getModifiers())) {
                    due.is(field + " is final", Modifier.isFinal(field.getModifiers()), true);
                }
            }
        }
    }

    private void words() throws IOException {
        due.part("rules 4, 6 and 13, words");
        String code = withoutComments(Files.readString(SOURCE));
        String[] banned = {"throw", "throws", "try", "catch", "finally", "synchronized", "assert", "package",
            "HashMap", "Map", "Set", "Object", "System\\.(?!arraycopy)", "Random", "Thread", "->", "::", "\"",
            "\\w+Exact", "hashCode", "toString", "equals", "protected"};
        for (String word : banned) {
            String edges = Character.isLetter(word.charAt(0)) ? "\\b" : "";
            String end = word.endsWith(")") ? "" : edges;
            Matcher found = Pattern.compile(edges + "(?:" + word + ")" + end).matcher(code);
            due.is("the word " + word, found.find(), false);
        }
        Matcher imports = Pattern.compile("import\\s+([\\w.*]+);").matcher(code);
        Set<String> allowed = Set.of("java.util.ArrayList", "java.util.Arrays", "java.util.List");
        while (imports.find()) {
            due.is("import " + imports.group(1), allowed.contains(imports.group(1)), true);
        }
    }

    private void lengths() throws IOException {
        due.part("rule 11, methods stay short");
        List<String> lines = Files.readAllLines(SOURCE);
        Pattern head = Pattern.compile("( {4}| {8})(?!if|for|while|switch|else)\\w.*\\) \\{");
        int methods = 0;
        for (int k = 0; k < lines.size(); k++) {
            Matcher found = head.matcher(lines.get(k));
            if (found.matches()) {
                int length = lines.subList(k, lines.size()).indexOf(found.group(1) + "}") + 1;
                due.is(lines.get(k).trim() + " has " + length + " lines", length > 0 && length <= MOST_LINES, true);
                methods++;
            }
        }
        due.is("methods were found", methods > FACE.length, true);
    }

    private void library() throws IOException {
        due.part("rule 4, the library");
        Set<String> used = new TreeSet<>(new ClassFile(JettisonDesk.class).calls());
        for (Class<?> inside : JettisonDesk.class.getDeclaredClasses()) {
            used.addAll(new ClassFile(inside).calls());
        }
        used.removeIf(call -> call.startsWith("JettisonDesk"));
        due.is("some are used", used.contains("java/util/List.size()I"), true);
        for (String call : used) {
            due.is(call, Pattern.compile(LIBRARY).matcher(call).lookingAt(), true);
        }
    }

    private static String withoutComments(String text) {
        return text.replaceAll("(?s)/\\*.*?\\*/", " ").replaceAll("//[^\n]*", " ");
    }

    private void room() {
        due.part("rule 12, the room");
        long most = 0;
        for (int kind = 0; kind < 4; kind++) {
            long before = allocated();
            fill(kind);
            most = Math.max(most, allocated() - before);
        }
        due.is("512 calls take " + most + " bytes", most < MOST_BYTES, true);
    }

    private static long allocated() {
        return ((com.sun.management.ThreadMXBean) ManagementFactory.getThreadMXBean())
                .getThreadAllocatedBytes(Thread.currentThread().getId());
    }

    /** The dearest runs: many voyages, acts begun and taken back, loading and adjusting again. */
    private static void fill(int kind) {
        JettisonDesk x = new JettisonDesk();
        int calls = 0;
        for (int v = 0; v < 6; v++) {
            x.voyage(v, 1000000, 2);
            for (int i = 0; i < (kind == 3 ? 6 : 40) && v < 2; i++) {
                x.lot(v, i % 30, 1000000, 999999, 1, 1000000, 0);
                calls++;
            }
            for (int a = 0; a < 12 && kind == 3; a++) {
                x.act(v);
                x.spend(v, a, 7);
                calls += 2;
            }
        }
        for (; calls < 500; calls += 2) {
            switch (kind) {
                case 0 -> { x.act(0); x.back(0); }
                case 1 -> { x.back(0); x.lot(0, 1, 1000000, 1, 1, 1, 0); }
                case 2 -> { x.move(0); x.back(0); }
                default -> { x.move(calls / 2 % 6); x.without(calls / 2 % 6, 3, 5); }
            }
        }
    }
}
