import java.io.File;
import java.lang.reflect.Method;

/** Each promise has a test that is named after it. */
public final class EachPromiseTest {
    public static void main(String[] args) throws ClassNotFoundException {
        int[] tests = new int[34];
        for (String file : new File("src/test/java").list()) {
            if (file.endsWith("Test.java")) {
                for (Method one : Class.forName(file.replace(".java", "")).getDeclaredMethods()) {
                    int promise = Check.promiseOf(one);
                    if (promise >= 0 && promise < tests.length) {
                        tests[promise]++;
                    }
                }
            }
        }
        for (int promise = 1; promise <= 33; promise++) {
            Check.due("tests of promise " + promise, tests[promise] > 0 ? 1 : 0, 1);
        }
        Check.end("EachPromiseTest");
    }
}
