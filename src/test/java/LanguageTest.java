import java.io.IOException;
import java.lang.reflect.Array;
import java.lang.reflect.Constructor;
import java.lang.reflect.Field;
import java.lang.reflect.InvocationTargetException;
import java.lang.reflect.Method;
import java.lang.reflect.Modifier;
import java.nio.file.Files;
import java.nio.file.Path;
import java.util.ArrayDeque;
import java.util.ArrayList;
import java.util.Collections;
import java.util.Deque;
import java.util.IdentityHashMap;
import java.util.List;
import java.util.Random;
import java.util.Set;
import java.util.TreeSet;
import java.util.regex.Matcher;
import java.util.regex.Pattern;

/** The face of the class, the rules of LANGUAGE.md that can be seen from outside, and that no call throws. */
public final class LanguageTest {
    private static final String METHODS = "byteOf count cut differ difference drop fault file flow input letter loop "
        + "numbered numbers operator out print read set setLetter take type";
    private static final List<String> CONSTANTS = List.of("BAD", "FULL", "NONE", "STATE");

    public static void main(String[] args) throws Exception {
        face();
        insideClasses();
        source();
        room();
        callsMakeNothing();
        wildCalls();
        Desk.end();
    }

    private static void face() {
        Set<String> methods = new TreeSet<>();
        for (Method method : JobText.class.getDeclaredMethods()) {
            if (!Modifier.isPrivate(method.getModifiers())) {
                methods.add(method.getName());
                Desk.due("public: " + method, Modifier.isPublic(method.getModifiers()) ? 1 : 0, 1);
                Desk.due("answers int: " + method, method.getReturnType() == int.class ? 1 : 0, 1);
            }
        }
        Desk.due("the methods", String.join(" ", methods), METHODS);
        Set<String> constants = new TreeSet<>();
        for (Field field : JobText.class.getDeclaredFields()) {
            if (!Modifier.isPrivate(field.getModifiers())) {
                constants.add(field.getName());
            }
        }
        Desk.due("the constants", String.join(" ", constants), String.join(" ", CONSTANTS));
        Desk.due("final", Modifier.isFinal(JobText.class.getModifiers()) ? 1 : 0, 1);
        Constructor<?>[] constructors = JobText.class.getDeclaredConstructors();
        Desk.due("constructors", constructors.length, 1);
        Desk.due("BAD", JobText.BAD, -1);
        Desk.due("STATE", JobText.STATE, -2);
        Desk.due("FULL", JobText.FULL, -3);
        Desk.due("NONE", JobText.NONE, -5);
    }

    private static void insideClasses() {
        List<Class<?>> classes = new ArrayList<>(List.of(JobText.class.getDeclaredClasses()));
        Desk.due("at most twelve classes", classes.size() + 1 <= 12 ? 1 : 0, 1);
        List<String> publicNames = List.of(METHODS.split(" "));
        for (Class<?> inside : classes) {
            Desk.due("static: " + inside, Modifier.isStatic(inside.getModifiers()) ? 1 : 0, 1);
            for (Method method : inside.getDeclaredMethods()) {
                Desk.due("a name of its own: " + method, publicNames.contains(method.getName()) ? 0 : 1, 1);
            }
        }
        classes.add(JobText.class);
        for (Class<?> any : classes) {
            int fields = 0;
            for (Field field : any.getDeclaredFields()) {
                if (Modifier.isStatic(field.getModifiers())) {
                    Desk.due("final: " + field, Modifier.isFinal(field.getModifiers()) ? 1 : 0, 1);
                } else {
                    fields++;
                }
            }
            Desk.due("at most twenty fields: " + any, fields <= 20 ? 1 : 0, 1);
            for (Method method : any.getDeclaredMethods()) {
                Desk.due("at most seven parameters: " + method, method.getParameterCount() <= 7 ? 1 : 0, 1);
            }
        }
    }

    private static void source() throws IOException {
        String code = Files.readString(Path.of("src/main/java/JobText.java"))
            .replaceAll("(?s)/\\*.*?\\*/", "").replaceAll("//[^\n]*", "").replaceAll("\"[^\"\n]*\"", "\"\"");
        Matcher banned = Pattern.compile("\\b(throw|throws|try|catch|finally|synchronized|assert|import|package|protected|"
            + "enum|volatile|native|float|double)\\b|->|::").matcher(code);
        Desk.due("no word that is ruled out", banned.find() ? banned.group() : "", "");
        String[] lines = code.split("\n");
        int methods = 0;
        for (int i = 0; i < lines.length; i++) {
            if (beginsMethod(lines[i])) {
                methods++;
                Desk.due("at most sixty lines: " + lines[i].strip(), endOfBlock(lines, i) - i < 60 ? 1 : 0, 1);
            }
        }
        Desk.due("methods were found in the source", methods > 100 ? 1 : 0, 1);
    }

    private static boolean beginsMethod(String line) {
        return line.matches("( {4}| {8})(\\w+ )*\\w+\\(.*\\) \\{") && !line.matches(" *(for|if|while|switch) .*");
    }

    private static int endOfBlock(String[] lines, int start) {
        String end = lines[start].replaceAll("^( *).*", "$1") + "}";
        for (int i = start; i < lines.length; i++) {
            if (lines[i].equals(end)) {
                return i;
            }
        }
        return lines.length;
    }

    /** What hangs on an object: how many objects and arrays, how many fields and elements. */
    private static int[] weigh(Object root) throws IllegalAccessException {
        Set<Object> met = Collections.newSetFromMap(new IdentityHashMap<>());
        Deque<Object> left = new ArrayDeque<>();
        left.add(root);
        met.add(root);
        int elements = 0;
        while (!left.isEmpty()) {
            Object object = left.remove();
            List<Object> parts = new ArrayList<>();
            if (object.getClass().isArray()) {
                elements += Array.getLength(object);
                if (object instanceof Object[] row) {
                    parts.addAll(List.of(row));
                }
            } else {
                for (Field field : object.getClass().getDeclaredFields()) {
                    if (!Modifier.isStatic(field.getModifiers())) {
                        elements++;
                        field.setAccessible(true);
                        if (!field.getType().isPrimitive()) {
                            parts.add(field.get(object));
                        }
                    }
                }
            }
            for (Object part : parts) {
                if (part != null && met.add(part)) {
                    left.add(part);
                }
            }
        }
        return new int[] {met.size(), elements};
    }

    private static void room() throws IllegalAccessException {
        Desk desk = new Desk();
        int[] weight = weigh(desk.x);
        System.out.println("an object is " + weight[0] + " objects and arrays, " + weight[1] + " fields and elements");
        Desk.due("few objects", weight[0] <= 3000 ? 1 : 0, 1);
        Desk.due("few elements", weight[1] <= 50000 ? 1 : 0, 1);
        desk.mustRead(0, "# c\nset a = 1; source s; op m: map from s;", 2);
        desk.mustRead(1, "source s; op m: flat from s;", 2);
        desk.differences();
        desk.printed(0);
        int[] later = weigh(desk.x);
        Desk.due("no more objects later", later[0] <= weight[0] ? 1 : 0, 1);
        Desk.due("no more elements later", later[1] <= weight[1] ? 1 : 0, 1);
    }

    private static void callsMakeNothing() throws IOException {
        String[] lines = Files.readString(Path.of("src/main/java/JobText.java")).split("\n");
        int constructorEnd = -1;
        for (int i = 0; i < lines.length; i++) {
            if (lines[i].matches("( {4}public JobText| {8}[A-Z]\\w*)\\(.*\\{")) {
                constructorEnd = endOfBlock(lines, i);
            }
            if (lines[i].contains(" new ") && !lines[i].strip().startsWith("//")) {
                Desk.due("rows are made in constructors alone: " + lines[i].strip(), i < constructorEnd ? 1 : 0, 1);
            }
        }
    }

    private static final int[] ODD = {Integer.MIN_VALUE, Integer.MIN_VALUE + 1, -200, -6, -5, -2, -1, 16, 39, 40, 63, 64, 79,
        80, 199, 200, 255, 1199, 1200, 9727, 9728, Integer.MAX_VALUE - 1, Integer.MAX_VALUE};

    private static final String BYTES = "source op :;,.=/map from 12 #\nab";

    private static Object argument(Random random, Class<?> type) {
        if (type == long.class) {
            long word = 0;
            for (int i = 0; i < 8; i++) {
                word = word << 8 | BYTES.charAt(random.nextInt(BYTES.length()));
            }
            return random.nextInt(10) == 0 ? random.nextLong() : word;
        }
        if (type == boolean.class) {
            return random.nextBoolean();
        }
        return random.nextInt(4) == 0 ? ODD[random.nextInt(ODD.length)] : random.nextInt(random.nextInt(16) + 1);
    }

    private static void wildCalls() throws IllegalAccessException {
        List<Method> methods = new ArrayList<>();
        for (Method method : JobText.class.getDeclaredMethods()) {
            if (Modifier.isPublic(method.getModifiers())) {
                methods.add(method);
            }
        }
        methods.sort((one, two) -> one.getName().compareTo(two.getName()));
        Random random = new Random(5);
        for (int round = 0; round < 400; round++) {
            Desk desk = new Desk();
            if (round % 2 == 0) {
                desk.readText(0, "set a = b; set c = 1; # d\nsource s side x, y; op u: union from s, s.x; op m: map from u pass 1/2;"
                    + "op o: sink from m; loop m to u;");
                desk.readText(1, "source s key k; op m: fold from s; # e");
            }
            for (int call = 0; call < 500; call++) {
                Method method = methods.get(random.nextInt(methods.size()));
                Object[] arguments = new Object[method.getParameterCount()];
                for (int i = 0; i < arguments.length; i++) {
                    arguments[i] = argument(random, method.getParameterTypes()[i]);
                }
                callOnce(desk.x, method, arguments);
            }
        }
    }

    private static void callOnce(JobText x, Method method, Object[] arguments) throws IllegalAccessException {
        try {
            int answer = (int) method.invoke(x, arguments);
            Desk.due("an answer of " + method.getName(), answer == -4 || answer < -25 ? 0 : 1, 1);
        } catch (InvocationTargetException thrown) {
            Desk.due(method.getName() + List.of(arguments) + " threw " + thrown.getCause(), 0, 1);
        }
    }
}
