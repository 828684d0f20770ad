import java.io.IOException;
import java.lang.reflect.Field;
import java.lang.reflect.Member;
import java.lang.reflect.Method;
import java.lang.reflect.Modifier;
import java.nio.charset.StandardCharsets;
import java.nio.file.Files;
import java.nio.file.Path;
import java.util.ArrayList;
import java.util.Arrays;
import java.util.List;
import java.util.TreeSet;
import java.util.regex.Matcher;
import java.util.regex.Pattern;

/** The rules of LANGUAGE.md that can be read off the source and the classes. */
public final class LanguageTest {
    private static final String[] FACE = {
        "int mast(int,int)", "int jam(int,boolean)", "int post(int,int)", "int set(int,int)", "int watched(int)", "int field(int)",
        "int town(int)", "int townIs(int,int)", "int plot(int,int)", "int plots(int)", "int plotIs(int,int)", "int follows(int,int)",
        "int tracking(int,int)", "int judge(int,int)", "int flyer(int,int,int,int)", "int flight(int,int,int,int,boolean)",
        "int as(int,int)", "int flyerIs(int,int)", "int answer(int,boolean)", "int send(int,int)", "int back(int)",
        "int fill(int,int,int)", "int feed(long,int)", "int rule(int,int)", "int force(int,int)", "int says(int,int,int,int,int)",
        "int meeting(int,int)", "int sending(int,int)", "int pilots(int,int)", "int laying(int,int,int,int)", "int minutes(int)",
        "int ahead(int,int,int)", "int voice(int,int,int)", "int trace(int)", "int sheet(int,int,int)", "int put(int,int,int)",
        "int move(int,int,int,int,int)", "int image()", "int restore()", "int tell(int)", "int check()", "int count(int)",
        "int found(int)"};
    // Some of these the language allows; the class does without them, so that there is less to look at.
    private static final String[] FORBIDDEN = {"throw", "throws", "try", "catch", "finally", "synchronized", "assert", "import",
        "package", "protected", "volatile", "transient", "native", "yield", "var", "Object", "Exception", "Thread", "Random",
        "hashCode", "equals", "toString", "System\\s*\\.\\s*(?!arraycopy)\\w+", "\\w+Exact", "interface", "instanceof", "null"};

    private static final Due due = new Due("LanguageTest");

    public static void main(String[] args) throws IOException {
        face();
        for (Class<?> c : classes()) {
            members(c);
        }
        due.holds("some twelve classes at most", classes().size() <= 12);
        source(Files.readString(Path.of("src/main/java/RaidRoom.java"), StandardCharsets.UTF_8));
        due.end();
    }

    private static List<Class<?>> classes() {
        List<Class<?>> all = new ArrayList<>(Arrays.asList(RaidRoom.class.getDeclaredClasses()));
        all.add(RaidRoom.class);
        return all;
    }

    private static void face() {
        TreeSet<String> got = new TreeSet<>();
        for (Method m : RaidRoom.class.getDeclaredMethods()) {
            if (Modifier.isPublic(m.getModifiers())) {
                got.add(told(m));
            } else {
                due.holds(m.getName() + " is private", Modifier.isPrivate(m.getModifiers()));
            }
        }
        due.holds("the face is " + got, got.equals(new TreeSet<>(Arrays.asList(FACE))));
        due.is("constructors", RaidRoom.class.getDeclaredConstructors().length, 1);
        due.holds("public final", RaidRoom.class.getModifiers() == (Modifier.PUBLIC | Modifier.FINAL));
        for (Field f : RaidRoom.class.getDeclaredFields()) {
            due.holds(f.getName() + " is private", Modifier.isPrivate(f.getModifiers()));
        }
    }

    private static String told(Method m) {
        StringBuilder b = new StringBuilder(m.getReturnType() + " " + m.getName() + "(");
        for (Class<?> p : m.getParameterTypes()) {
            b.append(b.charAt(b.length() - 1) == '(' ? "" : ",").append(p);
        }
        return b + ")";
    }

    private static void members(Class<?> c) {
        if (c != RaidRoom.class) {
            due.holds(c + " is static and not public", Modifier.isStatic(c.getModifiers()) && !Modifier.isPublic(c.getModifiers()));
        }
        int fields = 0;
        for (Field f : c.getDeclaredFields()) {
            boolean isStatic = Modifier.isStatic(f.getModifiers());
            due.holds(f + ": static ones are final", !isStatic || Modifier.isFinal(f.getModifiers()));
            fields += isStatic ? 0 : 1;
        }
        due.holds(c + " has some twenty fields at most", fields <= 20);
        List<String> names = new ArrayList<>();
        for (String f : FACE) {
            names.add(f.substring(4, f.indexOf('(')));
        }
        for (Method m : c.getDeclaredMethods()) {
            due.holds(m + ": seven parameters at most", m.getParameterCount() <= 7);
            due.holds(m + " bears no public name", c == RaidRoom.class && isPublic(m) || !names.contains(m.getName()));
        }
    }

    private static boolean isPublic(Member m) {
        return Modifier.isPublic(m.getModifiers());
    }

    private static void source(String text) {
        for (int i = 0; i < text.length(); i++) {
            char c = text.charAt(i);
            due.holds("sign " + (int) c + " at " + i, c == '\n' || c >= 32 && c < 127);
        }
        String code = text.replaceAll("/\\*(?s:.*?)\\*/", "").replaceAll("//.*", "");
        for (String word : FORBIDDEN) {
            due.holds("no " + word, !Pattern.compile("\\b" + word + "\\b").matcher(code).find());
        }
        due.holds("no lambda and no method reference", !code.contains("->") && !code.contains("::"));
        due.holds("texts are not joined by +", !Pattern.compile("\"\\s*\\+|\\+\\s*\"").matcher(code).find());
        due.holds("no while: loops count", !Pattern.compile("\\bwhile\\b|for \\(;;").matcher(code).find());
        lengths(code);
    }

    private static void lengths(String code) {
        Matcher m = Pattern.compile("(?m)^( {4}| {8})(?:[\\w\\[\\]]+ )+(\\w+)\\([^)]*\\) \\{\\n(?s:.*?)^\\1\\}").matcher(code);
        int methods = 0;
        while (m.find()) {
            methods++;
            due.holds(m.group(2) + " is short", m.group().lines().count() <= 60);
        }
        due.holds("methods were read", methods > 100);
    }
}
