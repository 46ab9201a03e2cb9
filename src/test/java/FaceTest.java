import java.io.IOException;
import java.lang.reflect.Constructor;
import java.lang.reflect.Field;
import java.lang.reflect.Method;
import java.lang.reflect.Modifier;
import java.nio.file.Files;
import java.nio.file.Path;
import java.util.ArrayDeque;
import java.util.Arrays;
import java.util.Deque;
import java.util.IdentityHashMap;
import java.util.Map;
import java.util.Set;
import java.util.TreeSet;
import java.util.regex.Matcher;
import java.util.regex.Pattern;

/** The face of the class, the rules of its language that a look at the file tells, and its room. */
public final class FaceTest {
    private static final Check CHECK = new Check("FaceTest");
    private static final Path SOURCE = Path.of("src/main/java/TicketWindows.java");
    private static final int MOST_ELEMENTS = 13_000;
    private static final int MOST_OBJECTS = 250;

    public static void main(String[] args) throws IOException, IllegalAccessException {
        constants();
        members();
        nestedClasses();
        source();
        room();
        CHECK.finish();
    }

    private static void constants() {
        CHECK.due("UNKNOWN", TicketWindows.UNKNOWN, -1);
        CHECK.due("BAD_VALUE", TicketWindows.BAD_VALUE, -2);
        CHECK.due("FULL", TicketWindows.FULL, -3);
        CHECK.due("NOT_POSSIBLE", TicketWindows.NOT_POSSIBLE, -4);
        CHECK.due("NONE", TicketWindows.NONE, -5);
    }

    private static void members() {
        Set<String> face = new TreeSet<>(Set.of("UNKNOWN", "BAD_VALUE", "FULL", "NOT_POSSIBLE",
                "NONE", "sell(int)", "draw(int)", "come(int,int)", "leave(int)", "pass(int)",
                "set(int,int)", "type(char)", "clearText()", "fault()", "doAll()", "undo()",
                "keep()", "restore()", "ticketOf(int,int)", "drawOf(int,int)", "windowOf(int,int)",
                "count(int)", "paid(boolean)", "why(int,int)", "ifRule(int,int,int)", "bestRule()",
                "shortest()"));
        Set<String> names = new TreeSet<>();
        face.forEach(member -> names.add(member.replaceAll("\\(.*", "")));
        Class<?> type = TicketWindows.class;
        CHECK.due("public final", type.getModifiers(), Modifier.PUBLIC | Modifier.FINAL);
        Set<String> found = new TreeSet<>();
        for (Field field : type.getDeclaredFields()) {
            if (!Modifier.isPrivate(field.getModifiers())) {
                found.add(field.getName());
            }
        }
        for (Method method : type.getDeclaredMethods()) {
            if (Modifier.isPrivate(method.getModifiers())) {
                CHECK.holds(method + " bears its own name", !names.contains(method.getName()));
                continue;
            }
            CHECK.holds(method + " is public", Modifier.isPublic(method.getModifiers()));
            CHECK.holds(method + " returns int", method.getReturnType() == int.class);
            String parameters = Arrays.toString(method.getParameterTypes());
            found.add(method.getName() + "("
                    + parameters.substring(1, parameters.length() - 1).replace(" ", "") + ")");
        }
        CHECK.holds("the face is " + found, found.equals(face));
        Constructor<?>[] constructors = type.getDeclaredConstructors();
        CHECK.due("constructors", constructors.length, 1);
        CHECK.due("public", constructors[0].getModifiers(), Modifier.PUBLIC);
        CHECK.due("parameters", constructors[0].getParameterCount(), 0);
    }

    private static void nestedClasses() {
        Class<?>[] nested = TicketWindows.class.getDeclaredClasses();
        CHECK.holds("some twelve classes", nested.length < 12);
        for (Class<?> type : nested) {
            CHECK.holds(type + " is static", Modifier.isStatic(type.getModifiers()));
            int fields = 0;
            for (Field field : type.getDeclaredFields()) {
                boolean constant = Modifier.isStatic(field.getModifiers());
                fields += constant ? 0 : 1;
                CHECK.holds(field + " is final",
                        !constant || Modifier.isFinal(field.getModifiers()));
            }
            CHECK.holds(type + " has some twenty fields", fields <= 20);
            CHECK.due(type + ": classes inside", type.getDeclaredClasses().length, 0);
        }
    }

    /** What LANGUAGE.md rules out and a word in the file would show. */
    private static void source() throws IOException {
        String code = Files.readString(SOURCE);
        CHECK.holds("signs 1 to 127", code.chars().allMatch(c -> c >= 1 && c <= 127));
        code = code.replaceAll("(?s)/\\*.*?\\*/", " ").replaceAll("//[^\n]*", " ");
        String[] ruledOut = {"throw", "throws", "try", "catch", "finally", "synchronized", "assert",
            "import", "package", "instanceof", "protected", "volatile", "native", "float", "double",
            "Random", "Thread", "System\\.(?!arraycopy)\\w+", "\\w+Exact", "toString", "hashCode",
            "equals", "static \\{", "->", "::", "\"", "long"};
        for (String word : ruledOut) {
            boolean isWord = Character.isLetter(word.charAt(0));
            Matcher matcher = Pattern.compile(isWord ? "\\b" + word + "\\b" : word).matcher(code);
            CHECK.holds("no " + word, !matcher.find());
        }
        Matcher parameters = Pattern.compile("\\w+\\(([^()]*)\\) \\{").matcher(code);
        while (parameters.find()) {
            CHECK.holds(parameters.group(), parameters.group(1).split(",").length <= 7);
        }
        methodsAreShort(code);
    }

    /** A method begins and ends at the same indent: 4 in the class, 8 in the classes inside. */
    private static void methodsAreShort(String code) {
        String[] lines = code.split("\n");
        for (int i = 0; i < lines.length; i++) {
            Matcher start = Pattern.compile("^( {4}| {8})\\S.*\\) \\{$").matcher(lines[i]);
            if (!start.find() || lines[i].matches("\\s*(if|for|while|switch)\\b.*")) {
                continue;
            }
            int end = i;
            while (end < lines.length && !lines[end].equals(start.group(1) + "}")) {
                end++;
            }
            CHECK.holds(lines[i].trim() + " is short", end - i < 60);
        }
    }

    /** A new object is small, and no call makes it larger. */
    private static void room() throws IllegalAccessException {
        TicketWindows x = new TicketWindows();
        long[] before = roomOf(x);
        CHECK.holds("objects: " + before[0], before[0] <= MOST_OBJECTS);
        CHECK.holds("fields and elements: " + before[1], before[1] <= MOST_ELEMENTS);
        Check.order(x, "s49;s40;d0;c0:49;c1:49;c2:49;c0:40;t9");
        for (int i = 0; i < 6; i++) {
            x.sell(100 + i);
            x.keep();
            x.restore();
            x.bestRule();
        }
        long[] after = roomOf(x);
        CHECK.due("objects", after[0], before[0]);
        CHECK.due("fields and elements", after[1], before[1]);
    }

    private static long[] roomOf(Object root) throws IllegalAccessException {
        Map<Object, Boolean> seen = new IdentityHashMap<>();
        Deque<Object> open = new ArrayDeque<>();
        open.add(root);
        seen.put(root, true);
        long elements = 0;
        while (!open.isEmpty()) {
            Object object = open.remove();
            Class<?> type = object.getClass();
            if (type.isArray()) {
                elements += java.lang.reflect.Array.getLength(object);
                if (object instanceof Object[] parts) {
                    for (Object part : parts) {
                        visit(part, seen, open);
                    }
                }
                continue;
            }
            for (Field field : type.getDeclaredFields()) {
                if (!Modifier.isStatic(field.getModifiers())) {
                    elements++;
                    field.setAccessible(true);
                    if (!field.getType().isPrimitive()) {
                        visit(field.get(object), seen, open);
                    }
                }
            }
        }
        return new long[] {seen.size(), elements};
    }

    private static void visit(Object object, Map<Object, Boolean> seen, Deque<Object> open) {
        if (object != null && seen.put(object, true) == null) {
            open.add(object);
        }
    }
}
