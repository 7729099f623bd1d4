import java.lang.reflect.InvocationTargetException;
import java.lang.reflect.Method;
import java.lang.reflect.Modifier;
import java.nio.charset.StandardCharsets;
import java.util.Arrays;
import java.util.Comparator;

/**
 * What the project's tests share. A test is a static method without arguments of a class that ends in Test; it names
 * the sentence of the document that it is about, and asks for answers that are due by that sentence.
 */
abstract class Checks {
    static final int BEYOND = -1000000001;
    static final int FULL = -1000000002;
    static final int KIND = -1000000003;
    static final int NONE = -1000000004;
    static final int STATE = -1000000005;
    static final int MISSING = -1000000006;
    static final int SIZE = -1000000007;

    static final int LEAST = Integer.MIN_VALUE;
    static final int MOST = Integer.MAX_VALUE;

    private static int wrong = 0;
    private static int asked = 0;
    private static String about = "";

    /** A call with one of its arguments left open. */
    interface Act {
        long with(int argument);
    }

    /** Runs every test of a class, and ends with exit code 1 if an answer was wrong. */
    static void run(Class<?> tests) {
        Method[] methods = tests.getDeclaredMethods();
        Arrays.sort(methods, Comparator.comparing(Method::getName));
        int ran = 0;
        for (Method m : methods) {
            if (isTest(m)) {
                runOne(m);
                ran++;
            }
        }
        System.out.println(ran + " tests, " + asked + " answers asked for, " + wrong + " not as due");
        if (wrong != 0 || ran == 0) {
            System.exit(1);
        }
    }

    private static boolean isTest(Method m) {
        return Modifier.isStatic(m.getModifiers()) && m.getParameterCount() == 0
            && m.getReturnType() == void.class && !m.isSynthetic();
    }

    private static void runOne(Method m) {
        int askedBefore = asked;
        about = m.getName();
        try {
            m.setAccessible(true);
            m.invoke(null);
        } catch (InvocationTargetException e) {
            e.getCause().printStackTrace(System.out);
            due("it throws", 1, 0);
        } catch (IllegalAccessException e) {
            due("it can't be run", 1, 0);
        }
        if (asked == askedBefore) {
            due("it asks for nothing", 1, 0);
        }
    }

    /** What comes next in this test is about a sentence of the document, told by a part of it. */
    static void sentence(int section, String quote) {
        String where = section == Document.TERMS ? "Terms" : "promise " + section;
        about = where + " '" + quote + "'";
        if (Document.sentenceOf(section, quote) == null) {
            due("the document has no such sentence", 1, 0);
        }
    }

    static void due(String call, long got, long want) {
        asked++;
        if (got != want) {
            wrong++;
            System.out.println(about + ": " + call + " answered " + got + ", due is " + want);
        }
    }

    /** The same answer is due for each argument in the place of '_'. */
    static void each(String call, long want, Act act, int... arguments) {
        for (int argument : arguments) {
            due(call.replace("_", Integer.toString(argument)), act.with(argument), want);
        }
    }

    /** The answers that are due for the arguments 0, 1, 2, .. in the place of '_'. */
    static void row(String call, Act act, long... want) {
        for (int i = 0; i < want.length; i++) {
            due(call.replace("_", Integer.toString(i)), act.with(i), want[i]);
        }
    }

    /** Four bytes a call, as an object is good for 512 calls only. */
    static void feed(BackAvenue x, String text) {
        byte[] bytes = text.getBytes(StandardCharsets.ISO_8859_1);
        for (int from = 0; from < bytes.length; from += 4) {
            int n = Math.min(4, bytes.length - from);
            int number = 0;
            for (int i = from; i < from + n; i++) {
                number = number << 8 | bytes[i] & 255;
            }
            x.feed(number, n);
        }
    }

    /** An avenue told as one text or several, on which trams run. */
    static BackAvenue busy(String... texts) {
        BackAvenue x = new BackAvenue();
        for (String text : texts) {
            feed(x, text);
            due("avenue() of '" + text + "' has a fault", x.avenue() < 1 ? 1 : 0, 0);
        }
        return x;
    }

    /** An avenue told as one text or several, without trams. */
    static BackAvenue quiet(String... texts) {
        BackAvenue x = busy(texts);
        x.trams(0);
        return x;
    }

    /** PLACE, ROUND, FINES and BUMPS of one. */
    static void is(BackAvenue x, int w, int place, int round, int fines, int bumps) {
        due("of(" + w + ", 1)", x.of(w, 1), place);
        due("of(" + w + ", 4)", x.of(w, 4), round);
        due("of(" + w + ", 5)", x.of(w, 5), fines);
        due("of(" + w + ", 6)", x.of(w, 6), bumps);
    }
}
