import java.lang.reflect.Constructor;
import java.lang.reflect.Field;
import java.lang.reflect.Method;
import java.lang.reflect.Modifier;
import java.nio.file.Files;
import java.nio.file.Path;
import java.util.ArrayList;
import java.util.Arrays;
import java.util.List;
import java.util.Random;
import java.util.TreeSet;
import java.util.regex.Pattern;

/** The public face and no more of it, rules of LANGUAGE.md that can be looked up, and that no arguments make a call throw. */
public final class FaceTest {
    private static final Checks C = new Checks("FaceTest");
    private static final String[] METHODS = {
        "int cradle(int, int, int, int)", "int heir(int, int, int)", "int say(int)", "int wipe()", "int fault()",
        "int judge(int)", "int behind(int, int)", "int stands(int, int)", "int house(int)", "int wrong(int)", "int done()",
        "long seek(int, int, int, int)", "int looks(int, int, int)", "int mix(int, int, int, int)", "int rises(int, int)",
        "int like(int, int, boolean)", "int forget()", "int own(int)", "int ask(int)", "int take(int, int)",
        "long pass(int, int, int)", "int passes(int)", "int hour(int, int, int)", "int image(int)", "int restore(int)",
        "int told(int)"};

    public static void main(String[] args) throws Exception {
        members();
        constants();
        rules();
        words();
        noCallThrows();
        C.finish();
    }

    private static void same(String what, Object got, Object want) {
        C.due(what + " " + got + ", wanted " + want, got.equals(want) ? 1 : 0, 1);
    }

    private static String described(Method m) {
        List<String> types = new ArrayList<>();
        for (Class<?> type : m.getParameterTypes()) {
            types.add(type.getSimpleName());
        }
        return m.getReturnType().getSimpleName() + " " + m.getName() + "(" + String.join(", ", types) + ")";
    }

    private static void members() {
        TreeSet<String> open = new TreeSet<>();
        TreeSet<String> names = new TreeSet<>();
        TreeSet<String> hidden = new TreeSet<>();
        for (Method m : CradleHour.class.getDeclaredMethods()) {
            if (Modifier.isPrivate(m.getModifiers())) {
                hidden.add(m.getName());
            } else {
                open.add(described(m));
                names.add(m.getName());
            }
        }
        same("methods", open, new TreeSet<>(Arrays.asList(METHODS)));
        hidden.retainAll(names);
        same("private methods named as public ones", hidden, new TreeSet<String>());
        for (Constructor<?> c : CradleHour.class.getDeclaredConstructors()) {
            same("constructor", c.toString(), "public CradleHour()");
        }
        same("class", Modifier.toString(CradleHour.class.getModifiers()), "public final");
        for (Class<?> inside : CradleHour.class.getDeclaredClasses()) {
            same("static " + inside.getName(), Modifier.isStatic(inside.getModifiers()), true);
        }
    }

    private static void constants() throws Exception {
        TreeSet<String> open = new TreeSet<>();
        for (Field f : CradleHour.class.getDeclaredFields()) {
            if (!Modifier.isPrivate(f.getModifiers())) {
                open.add(f.getType() + " " + f.getName() + " " + f.get(null) + " " + Modifier.toString(f.getModifiers()));
            }
        }
        TreeSet<String> want = new TreeSet<>();
        String[] names = {"UNKNOWN", "OUTSIDE", "STATE", "FULL", "NO", "NONE"};
        for (int k = 0; k < names.length; k++) {
            want.add("int " + names[k] + " " + (-1 - k) + " public static final");
        }
        want.add("long GONE -1000000000000000000 public static final");
        same("constants", open, want);
    }

    /** Of every class in the file: names of methods, parameters, fields, static state, how many there are. */
    private static void rules() {
        TreeSet<String> face = new TreeSet<>();
        for (Method m : CradleHour.class.getMethods()) {
            if (m.getDeclaringClass() == CradleHour.class) {
                face.add(m.getName());
            }
        }
        List<Class<?>> classes = new ArrayList<>(Arrays.asList(CradleHour.class.getDeclaredClasses()));
        classes.add(CradleHour.class);
        C.due("more than twelve classes: " + classes.size(), classes.size() > 12 ? 1 : 0, 0);
        for (Class<?> type : classes) {
            String name = type.getSimpleName();
            C.due("classes inside " + name, type == CradleHour.class ? 0 : type.getDeclaredClasses().length, 0);
            for (Method m : type.getDeclaredMethods()) {
                C.due(name + "." + m.getName() + ": parameters beyond seven", Math.max(0, m.getParameterCount() - 7), 0);
                boolean hidden = !Modifier.isPublic(m.getModifiers());
                C.due(name + "." + m.getName() + " is named as a public one", hidden && face.contains(m.getName()) ? 1 : 0, 0);
            }
            int fields = 0;
            for (Field f : type.getDeclaredFields()) {
                boolean shared = Modifier.isStatic(f.getModifiers());
                fields += shared ? 0 : 1;
                C.due(name + "." + f.getName() + ": static and not final",
                    shared && !Modifier.isFinal(f.getModifiers()) ? 1 : 0, 0);
            }
            C.due(name + ": fields beyond twenty", Math.max(0, fields - 20), 0);
        }
    }

    private static void words() throws Exception {
        String source = Files.readString(Path.of("src/main/java/CradleHour.java"));
        String code = source.replaceAll("(?s)/\\*.*?\\*/", " ").replaceAll("//[^\n]*", " ");
        for (String word : new String[] {"import", "package", "throw", "throws", "try", "catch", "synchronized", "assert",
            "protected", "transient", "volatile", "native", "Thread", "Random", "Scanner", "Object"}) {
            C.due("the word " + word, Pattern.compile("\\b" + word + "\\b").matcher(code).find() ? 1 : 0, 0);
        }
        C.due("lambda or method reference", code.contains("->") || code.contains("::") ? 1 : 0, 0);
        C.due("signs beyond 127", source.chars().filter(c -> c > 127).count(), 0);
    }

    private static final int[] EDGES = {Integer.MIN_VALUE, Integer.MIN_VALUE + 1, -1000000, -3, -2, -1, 0, 1, 2, 3, 4, 5, 6,
        8, 9, 10, 20, 38, 39, 40, 41, 60, 99, 100, 998, 999, 9999, 10000, 111111111, 999999999, 1000000000,
        Integer.MAX_VALUE - 1, Integer.MAX_VALUE};

    private static Object drawn(Random r, Class<?> type) {
        if (type == boolean.class) {
            return r.nextBoolean();
        }
        switch (r.nextInt(4)) {
            case 0:
                return r.nextInt();
            case 1:
                return EDGES[r.nextInt(EDGES.length)];
            case 2:
                return r.nextInt(130);
            default:
                return r.nextInt(10);
        }
    }

    private static void noCallThrows() throws Exception {
        List<Method> methods = new ArrayList<>();
        for (Method m : CradleHour.class.getDeclaredMethods()) {
            if (Modifier.isPublic(m.getModifiers())) {
                methods.add(m);
            }
        }
        methods.sort((a, b) -> a.getName().compareTo(b.getName()));
        Random r = new Random(11);
        for (int run = 0; run < 300; run++) {
            CradleHour x = new CradleHour();
            for (int k = 0; k < 512; k++) {
                Method m = methods.get(r.nextInt(methods.size()));
                Class<?>[] types = m.getParameterTypes();
                Object[] values = new Object[types.length];
                for (int i = 0; i < types.length; i++) {
                    values[i] = drawn(r, types[i]);
                }
                int thrown = 0;
                try {
                    m.invoke(x, values);
                } catch (java.lang.reflect.InvocationTargetException e) {
                    thrown = 1;
                }
                C.due(m.getName() + Arrays.toString(values) + " throws", thrown, 0);
            }
        }
    }
}
