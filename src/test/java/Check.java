import java.lang.reflect.InvocationTargetException;
import java.lang.reflect.Method;
import java.util.Arrays;
import java.util.Comparator;

/** What the tests share: suites of named tests, due answers, tapes fed from texts. */
final class Check {
    private static String test = "";
    private static int wrong = 0;

    private Check() {
    }

    /** The promise that a test is named after: p, two digits, and the case; 0 stands for the terms at large, -1 for no test. */
    static int promiseOf(Method one) {
        return one.getName().matches("p\\d\\d[A-Z]\\w*") ? Integer.parseInt(one.getName().substring(1, 3)) : -1;
    }

    /** Runs each test of a suite. */
    static void run(Class<?> suite) throws IllegalAccessException {
        Method[] tests = Arrays.stream(suite.getDeclaredMethods()).filter(m -> promiseOf(m) >= 0)
            .sorted(Comparator.comparing(Method::getName)).toArray(Method[]::new);
        for (Method one : tests) {
            test = one.getName();
            try {
                one.invoke(null);
            } catch (InvocationTargetException e) {
                due("thrown " + e.getCause(), 1, 0);
            }
        }
        test = "";
        due("tests of " + suite.getName(), tests.length > 0 ? 1 : 0, 1);
        end(suite.getName() + ", " + tests.length + " tests");
    }

    static void due(String what, long got, long want) {
        if (got != want) {
            wrong++;
            System.out.println((test.isEmpty() ? "" : test + ": ") + what + ": answered " + got + ", due is " + want);
        }
    }

    /** Numbers outside of least .. most: the nearest, the farthest, and those that a cast to a byte or a short lets in. */
    static int[] beyond(int least, int most) {
        return new int[] {least - 1, most + 1, Integer.MIN_VALUE, Integer.MAX_VALUE, least + (1 << 16), least - (1 << 8)};
    }

    static void feed(StarCustody x, String text) {
        for (int i = 0; i < text.length(); i++) {
            due("feed of " + text + " at " + i, x.feed(text.charAt(i)), x.count(5));
        }
    }

    /** Feeds a text to an empty tape, and reads it. */
    static int sky(StarCustody x, String text) {
        for (int i = 0; i < text.length(); i++) {
            due("feed of " + text + " at " + i, x.feed(text.charAt(i)), i + 1);
        }
        return x.sky();
    }

    static StarCustody under(String text) {
        StarCustody x = new StarCustody();
        due("sky " + text, sky(x, text), 0);
        return x;
    }

    /** A new object with one light, under no sky. */
    static StarCustody with(int kind, int v, int round, int phase) {
        StarCustody x = new StarCustody();
        due("light", x.light(kind, v, round, phase), 0);
        return x;
    }

    static void pass(StarCustody x, int nights) {
        for (int left = nights; left > 0; left -= 60) {
            x.pass(Math.min(left, 60));
        }
    }

    static void end(String name) {
        System.out.println(name + (wrong == 0 ? ": all answers are as due" : ": " + wrong + " answers are not as due"));
        if (wrong != 0) {
            System.exit(1);
        }
    }
}
