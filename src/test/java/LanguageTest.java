import java.io.IOException;
import java.lang.reflect.Field;
import java.lang.reflect.Member;
import java.lang.reflect.Method;
import java.lang.reflect.Modifier;
import java.nio.charset.StandardCharsets;
import java.nio.file.Files;
import java.nio.file.Path;
import java.util.Arrays;
import java.util.List;
import java.util.Set;
import java.util.TreeSet;
import java.util.regex.Matcher;
import java.util.regex.Pattern;

/** What can be seen of the rules of LANGUAGE.md, by the class's text and by its face. */
public final class LanguageTest {
    private static final String FACE = "feed(int) int sky() int light(int,int,int,int) int of(int,int) int base(int,int,int) int "
        + "worth(int,int,int) int row(int,int,int) int set(int,int,int) int hide(int,boolean) int told(int) int pass(int) int "
        + "on(int,int) int when(int) int meet(int,int) int deal(int,int,int) int shares(int) int note(int,int,boolean) int "
        + "rounds(int,int) int phases(int,int) int firm(int,int) int odds(int,int,int,int) long mean(int,int) long "
        + "plan(int,int) int done(int) int book(int,int) int looked() int act(int,int,int) int trace(int) int as(int,int) int "
        + "image() int undo() int count(int) int";

    public static void main(String[] args) throws IOException {
        face();
        inside();
        text();
        Check.end("LanguageTest");
    }

    private static void face() {
        Set<String> due = new TreeSet<>();
        String[] words = FACE.split(" ");
        for (int i = 0; i < words.length; i += 2) {
            due.add(words[i] + " " + words[i + 1]);
        }
        Set<String> is = new TreeSet<>();
        Set<String> publicNames = new TreeSet<>();
        for (Method m : StarCustody.class.getDeclaredMethods()) {
            if (Modifier.isPublic(m.getModifiers())) {
                is.add(signature(m));
                publicNames.add(m.getName());
            }
        }
        Check.due("rule 1: the face " + is, is.equals(due) ? 1 : 0, 1);
        Check.due("rule 1: 32 methods", is.size(), 32);
        for (Method m : StarCustody.class.getDeclaredMethods()) {
            boolean isPrivate = Modifier.isPrivate(m.getModifiers());
            Check.due("rule 1: " + m, isPrivate && publicNames.contains(m.getName()) ? 1 : 0, 0);
            hidden(m);
        }
        Set<String> constants = new TreeSet<>();
        for (Field f : StarCustody.class.getDeclaredFields()) {
            hidden(f);
            if (Modifier.isPublic(f.getModifiers())) {
                constants.add(f.getName());
            }
        }
        Check.due("rule 1: constants", constants.equals(new TreeSet<>(List.of("BAD", "FULL", "NO", "NONE", "STATE"))) ? 1 : 0, 1);
        Check.due("rule 1: constructors", StarCustody.class.getDeclaredConstructors().length, 1);
    }

    private static String signature(Method m) {
        StringBuilder s = new StringBuilder(m.getName()).append('(');
        for (Class<?> type : m.getParameterTypes()) {
            s.append(s.charAt(s.length() - 1) == '(' ? "" : ",").append(type.getName());
        }
        return s.append(") ").append(m.getReturnType().getName()).toString();
    }

    private static void hidden(Member m) {
        boolean isShown = !Modifier.isPublic(m.getModifiers()) && !Modifier.isPrivate(m.getModifiers()) && !m.isSynthetic();
        Check.due("rule 1: neither public nor private: " + m, isShown ? 1 : 0, 0);
    }

    private static void inside() {
        Class<?>[] classes = StarCustody.class.getDeclaredClasses();
        Check.due("rule 11: some twelve classes, but " + classes.length, classes.length + 1 <= 12 ? 1 : 0, 1);
        for (Class<?> one : classes) {
            int how = one.getModifiers();
            boolean isFine = Modifier.isStatic(how) && !Modifier.isPublic(how) && !Modifier.isProtected(how);
            Check.due("rule 2: " + one, isFine ? 1 : 0, 1);
            Check.due("rule 2: classes in " + one, one.getDeclaredClasses().length, 0);
            staticsAreFinal(one);
        }
        staticsAreFinal(StarCustody.class);
    }

    private static void staticsAreFinal(Class<?> one) {
        for (Field f : one.getDeclaredFields()) {
            boolean isLoose = Modifier.isStatic(f.getModifiers()) && !Modifier.isFinal(f.getModifiers());
            Check.due("rule 5: " + f, isLoose ? 1 : 0, 0);
        }
        for (Method m : one.getDeclaredMethods()) {
            Check.due("rule 11: parameters of " + m, m.getParameterCount() <= 7 ? 1 : 0, 1);
        }
        long fields = Arrays.stream(one.getDeclaredFields()).filter(f -> !Modifier.isStatic(f.getModifiers())).count();
        Check.due("rule 11: fields of " + one, fields <= 20 ? 1 : 0, 1);
    }

    private static void text() throws IOException {
        String text = Files.readString(Path.of("src/main/java/StarCustody.java"), StandardCharsets.ISO_8859_1);
        String code = text.replaceAll("(?s)/\\*.*?\\*/", "").replaceAll("//[^\n]*", "");
        String forbidden = "\\b(import|package|try|catch|throws?|synchronized|assert|while|new Integer|Object|equals|hashCode"
            + "|toString|\\w+Exact|NaN|Thread|Random|nanoTime|currentTimeMillis|getenv|print(ln|f)?)\\b|->|::|@";
        Matcher found = Pattern.compile(forbidden).matcher(code);
        while (found.find()) {
            Check.due("rules 2, 4, 6, 13: " + found.group(), 1, 0);
        }
        for (int i = 0; i < text.length(); i++) {
            Check.due("rule 4: sign " + (int) text.charAt(i), text.charAt(i) < 128 ? 1 : 0, 1);
        }
        lengths(text.split("\n", -1));
    }

    /** A method begins on a line that opens a brace at the depth of members, and ends where that depth is back. */
    private static void lengths(String[] lines) {
        String start = "";
        int begun = -1;
        for (int i = 0; i < lines.length; i++) {
            if (lines[i].matches(" {4}(    )?\\S.*\\) \\{")) {
                begun = i;
                start = lines[i];
            }
            if (begun >= 0 && lines[i].matches(" {4}(    )?\\}") && lines[i].indexOf('}') == start.length() - start.stripLeading().length()) {
                Check.due("rule 11: lines of " + start.strip(), i - begun + 1 <= 60 ? 1 : 0, 1);
                begun = -1;
            }
        }
    }
}
