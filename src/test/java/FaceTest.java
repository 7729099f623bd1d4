import java.io.IOException;
import java.lang.reflect.Constructor;
import java.lang.reflect.Field;
import java.lang.reflect.Method;
import java.lang.reflect.Modifier;
import java.nio.file.Files;
import java.nio.file.Path;
import java.util.ArrayList;
import java.util.Arrays;
import java.util.List;
import java.util.Random;
import java.util.Set;
import java.util.TreeSet;
import java.util.regex.Matcher;
import java.util.regex.Pattern;
import java.util.stream.Collectors;

/** The public face, the rules of LANGUAGE.md that a look at the source can tell, and calls with wild arguments. */
public final class FaceTest extends Checks {
    private static final String[] FACE = {
        "int trams(int)", "int walker(int,int)", "int of(int,int)", "int set(int,int,int)", "int turn(int,int)",
        "int as(int,int)", "int sees(int)", "int leader(int)", "int minutes(int)", "int now(int)",
        "int on(int,int,int)", "int through(int)", "int bumps(int)", "int meet(int,int)", "int pace(int)",
        "int kind(int)", "int begin(int,int)", "int fewest(int)", "int other(int)", "int first()",
        "int feed(int,int)", "int wipe()", "int avenue()", "int sheet(int,int,int)", "long write(int,int,long)",
        "int copy(int,int,int,int,int)", "int lays(int)", "int book(int,int)", "int read(int,int)", "int image()",
        "int undo()", "int tear()", "int count(int)", "int status(int)"};
    private static final int[] WILD = {
        0, 1, 2, 3, 4, 5, 6, 7, 8, 9, 16, 20, 40, 64, 99, 100, 200, -1, -2, 1000, Integer.MAX_VALUE, Integer.MIN_VALUE};

    public static void main(String[] args) {
        run(FaceTest.class);
    }

    static void face() {
        Set<String> publics = new TreeSet<>();
        Set<String> names = new TreeSet<>();
        for (Method m : BackAvenue.class.getDeclaredMethods()) {
            if (Modifier.isPublic(m.getModifiers())) {
                publics.add(signature(m));
                names.add(m.getName());
            }
        }
        due("the face is the document's", publics.equals(new TreeSet<>(Arrays.asList(FACE))) ? 1 : 0, 1);
        due("the class is public and final", BackAvenue.class.getModifiers(), Modifier.PUBLIC | Modifier.FINAL);
        Constructor<?>[] constructors = BackAvenue.class.getDeclaredConstructors();
        due("constructors", constructors.length, 1);
        for (Method m : BackAvenue.class.getDeclaredMethods()) {
            boolean isPrivate = Modifier.isPrivate(m.getModifiers());
            boolean fits = isPrivate ? !names.contains(m.getName()) : Modifier.isPublic(m.getModifiers());
            due("rule 1 of " + m.getName(), fits ? 1 : 0, 1);
        }
        for (var f : BackAvenue.class.getDeclaredFields()) {
            due("field " + f.getName() + " is private", Modifier.isPrivate(f.getModifiers()) ? 1 : 0, 1);
        }
    }

    static void classesInside() {
        Set<String> names = Arrays.stream(FACE).map(f -> f.replaceAll(".* |\\(.*", "")).collect(Collectors.toSet());
        Class<?>[] inside = BackAvenue.class.getDeclaredClasses();
        due("rule 11: some twelve classes", inside.length <= 11 ? 1 : 0, 1);
        for (Class<?> c : inside) {
            int m = c.getModifiers();
            boolean fits = Modifier.isStatic(m) && !Modifier.isPublic(m) && !Modifier.isProtected(m);
            due("rule 1 of class " + c.getName(), fits ? 1 : 0, 1);
            for (Constructor<?> constructor : c.getDeclaredConstructors()) {
                // What takes nothing can't be handed a part of the object that is being made.
                due("rule 12: what making a " + c.getName() + " takes", constructor.getParameterCount(), 0);
            }
            for (Method method : c.getDeclaredMethods()) {
                due("rule 1 of " + c.getName() + "." + method.getName(), names.contains(method.getName()) ? 1 : 0, 0);
            }
        }
    }

    /** Rules 5 and 11, of the class and of those inside it. */
    static void fieldsAndParameters() {
        List<Class<?>> classes = new ArrayList<>(List.of(BackAvenue.class.getDeclaredClasses()));
        classes.add(BackAvenue.class);
        for (Class<?> c : classes) {
            int fields = 0;
            for (Field f : c.getDeclaredFields()) {
                boolean isStatic = Modifier.isStatic(f.getModifiers());
                boolean isConstant = Modifier.isFinal(f.getModifiers()) && f.getType() == int.class;
                due("rule 5 of " + c.getName() + "." + f.getName(), !isStatic || isConstant ? 1 : 0, 1);
                fields += isStatic ? 0 : 1;
            }
            due("rule 11: fields of " + c.getName(), fields <= 20 ? 1 : 0, 1);
            for (Method m : c.getDeclaredMethods()) {
                due("rule 11: parameters of " + m.getName(), m.getParameterCount() <= 7 ? 1 : 0, 1);
            }
        }
    }

    private static String signature(Method m) {
        String types = Arrays.stream(m.getParameterTypes()).map(Class::getName).collect(Collectors.joining(","));
        return m.getReturnType().getName() + " " + m.getName() + "(" + types + ")";
    }

    static void rulesOfTheLanguage() throws IOException {
        String source = Files.readString(Path.of("src/main/java/BackAvenue.java"));
        String code = source.replaceAll("(?s)/\\*.*?\\*/", "").replaceAll("//[^\n]*", "");
        String[] barred = {
            "\\bthrow\\b", "\\btry\\b", "\\bcatch\\b", "\\bsynchronized\\b", "\\bassert\\b", "->", "::", "Exact\\(",
            "\\bRandom\\b", "currentTimeMillis", "nanoTime", "\\bpackage\\b", "\\bvar\\b",
            "import (?!java\\.util\\.Arrays;)"};
        for (String rule : barred) {
            Matcher m = Pattern.compile(rule).matcher(code);
            due("in the source: " + rule, m.find() ? 1 : 0, 0);
        }
    }

    /** Reflection tells what the machine throws, so a throw in any call ends this test; findings are counted. */
    static void neverThrows() throws ReflectiveOperationException {
        Random random = new Random(7);
        for (int run = 0; run < 150; run++) {
            BackAvenue x = run % 2 == 0 ? new BackAvenue() : AvenueMaker.make(random);
            for (int i = 0; i < 150; i++) {
                Method m = methodOf(FACE[random.nextInt(FACE.length)]);
                Class<?>[] types = m.getParameterTypes();
                Object[] values = new Object[types.length];
                for (int k = 0; k < values.length; k++) {
                    int v = random.nextInt(3) > 0 ? random.nextInt(9) : WILD[random.nextInt(WILD.length)];
                    values[k] = types[k] == long.class ? (Object) Long.valueOf(v) : (Object) Integer.valueOf(v);
                }
                int before = x.status(-1);
                long answer = ((Number) m.invoke(x, values)).longValue();
                int due = answer >= SIZE && answer <= BEYOND ? before + 1 : before;
                due("35 status(-1) behind " + m.getName() + Arrays.toString(values), x.status(-1), due);
            }
        }
    }

    private static Method methodOf(String signature) {
        for (Method m : BackAvenue.class.getMethods()) {
            if (signature(m).equals(signature)) {
                return m;
            }
        }
        return null;
    }
}
